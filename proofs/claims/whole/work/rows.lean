section
-- ===== PART A: goes FIRST, ahead of the names: the tables' words, and 'selects' of the private methods out of them =====
/-- a private method of a class that the tables say can be made, by its rows of tables_1 -/
def lw_okq (q : MethodName × Nat) : Prop := (q.1.cls ≠ "java/lang/invoke/MethodHandle" ∧ q.1.cls ≠ "java/lang/invoke/VarHandle") ∧ Cond.instantiable q.1.cls q.2 ∈ tables_1 ∧ Cond.privateMethod q.1 ∈ tables_1 ∧ Cond.instanceMethod q.1 ∈ tables_1
theorem lw_p0 : lw_okq (⟨"AshLoans", "fail", "(I)I"⟩, 10) := ⟨⟨by decide +kernel, by decide +kernel⟩, List.mem_of_getElem? (i := 20) (by decide +kernel), List.mem_of_getElem? (i := 321) (by decide +kernel), List.mem_of_getElem? (i := 322) (by decide +kernel)⟩
theorem lw_p1 : lw_okq (⟨"AshLoans$Reader", "readLevel", "(II)Z"⟩, 6) := ⟨⟨by decide +kernel, by decide +kernel⟩, List.mem_of_getElem? (i := 208) (by decide +kernel), List.mem_of_getElem? (i := 413) (by decide +kernel), List.mem_of_getElem? (i := 414) (by decide +kernel)⟩
theorem lw_p2 : lw_okq (⟨"AshLoans$Reader", "readPart", "(I)Z"⟩, 6) := ⟨⟨by decide +kernel, by decide +kernel⟩, List.mem_of_getElem? (i := 208) (by decide +kernel), List.mem_of_getElem? (i := 417) (by decide +kernel), List.mem_of_getElem? (i := 418) (by decide +kernel)⟩
theorem lw_p3 : lw_okq (⟨"AshLoans$Reader", "next", "()I"⟩, 6) := ⟨⟨by decide +kernel, by decide +kernel⟩, List.mem_of_getElem? (i := 208) (by decide +kernel), List.mem_of_getElem? (i := 421) (by decide +kernel), List.mem_of_getElem? (i := 422) (by decide +kernel)⟩
theorem lw_p4 : lw_okq (⟨"AshLoans$Reader", "readNumber", "()Z"⟩, 6) := ⟨⟨by decide +kernel, by decide +kernel⟩, List.mem_of_getElem? (i := 208) (by decide +kernel), List.mem_of_getElem? (i := 429) (by decide +kernel), List.mem_of_getElem? (i := 430) (by decide +kernel)⟩
theorem lw_p5 : lw_okq (⟨"AshLoans$Reader", "add", "(I)V"⟩, 6) := ⟨⟨by decide +kernel, by decide +kernel⟩, List.mem_of_getElem? (i := 208) (by decide +kernel), List.mem_of_getElem? (i := 433) (by decide +kernel), List.mem_of_getElem? (i := 434) (by decide +kernel)⟩
theorem lw_p6 : lw_okq (⟨"AshLoans$Reader", "readName", "(I)Z"⟩, 6) := ⟨⟨by decide +kernel, by decide +kernel⟩, List.mem_of_getElem? (i := 208) (by decide +kernel), List.mem_of_getElem? (i := 437) (by decide +kernel), List.mem_of_getElem? (i := 438) (by decide +kernel)⟩
theorem lw_p7 : lw_okq (⟨"AshLoans", "isMix", "(I)Z"⟩, 10) := ⟨⟨by decide +kernel, by decide +kernel⟩, List.mem_of_getElem? (i := 20) (by decide +kernel), List.mem_of_getElem? (i := 517) (by decide +kernel), List.mem_of_getElem? (i := 518) (by decide +kernel)⟩
theorem lw_p8 : lw_okq (⟨"AshLoans", "colourOfMix", "(II)I"⟩, 10) := ⟨⟨by decide +kernel, by decide +kernel⟩, List.mem_of_getElem? (i := 20) (by decide +kernel), List.mem_of_getElem? (i := 530) (by decide +kernel), List.mem_of_getElem? (i := 531) (by decide +kernel)⟩
theorem lw_p9 : lw_okq (⟨"AshLoans", "colourOfAsh", "(LAshLoans$Ash;I)I"⟩, 10) := ⟨⟨by decide +kernel, by decide +kernel⟩, List.mem_of_getElem? (i := 20) (by decide +kernel), List.mem_of_getElem? (i := 538) (by decide +kernel), List.mem_of_getElem? (i := 539) (by decide +kernel)⟩
theorem lw_p10 : lw_okq (⟨"AshLoans", "drawHedge", "()V"⟩, 10) := ⟨⟨by decide +kernel, by decide +kernel⟩, List.mem_of_getElem? (i := 20) (by decide +kernel), List.mem_of_getElem? (i := 577) (by decide +kernel), List.mem_of_getElem? (i := 578) (by decide +kernel)⟩
theorem lw_p11 : lw_okq (⟨"AshLoans", "draw", "()I"⟩, 10) := ⟨⟨by decide +kernel, by decide +kernel⟩, List.mem_of_getElem? (i := 20) (by decide +kernel), List.mem_of_getElem? (i := 581) (by decide +kernel), List.mem_of_getElem? (i := 582) (by decide +kernel)⟩
theorem lw_p12 : lw_okq (⟨"AshLoans", "prepareRecipes", "(LAshLoans$Potter;I)V"⟩, 10) := ⟨⟨by decide +kernel, by decide +kernel⟩, List.mem_of_getElem? (i := 20) (by decide +kernel), List.mem_of_getElem? (i := 622) (by decide +kernel), List.mem_of_getElem? (i := 623) (by decide +kernel)⟩
theorem lw_p13 : lw_okq (⟨"AshLoans", "fewestFor", "(I)I"⟩, 10) := ⟨⟨by decide +kernel, by decide +kernel⟩, List.mem_of_getElem? (i := 20) (by decide +kernel), List.mem_of_getElem? (i := 629) (by decide +kernel), List.mem_of_getElem? (i := 630) (by decide +kernel)⟩
theorem lw_p14 : lw_okq (⟨"AshLoans", "bushelsOfChoice", "(I)I"⟩, 10) := ⟨⟨by decide +kernel, by decide +kernel⟩, List.mem_of_getElem? (i := 20) (by decide +kernel), List.mem_of_getElem? (i := 633) (by decide +kernel), List.mem_of_getElem? (i := 634) (by decide +kernel)⟩
theorem lw_p15 : lw_okq (⟨"AshLoans", "colourOfChoice", "(I)I"⟩, 10) := ⟨⟨by decide +kernel, by decide +kernel⟩, List.mem_of_getElem? (i := 20) (by decide +kernel), List.mem_of_getElem? (i := 637) (by decide +kernel), List.mem_of_getElem? (i := 638) (by decide +kernel)⟩
def lw_privs_1 : List (MethodName × Nat) := [(⟨"AshLoans", "fail", "(I)I"⟩, 10), (⟨"AshLoans$Reader", "readLevel", "(II)Z"⟩, 6), (⟨"AshLoans$Reader", "readPart", "(I)Z"⟩, 6), (⟨"AshLoans$Reader", "next", "()I"⟩, 6), (⟨"AshLoans$Reader", "readNumber", "()Z"⟩, 6), (⟨"AshLoans$Reader", "add", "(I)V"⟩, 6), (⟨"AshLoans$Reader", "readName", "(I)Z"⟩, 6), (⟨"AshLoans", "isMix", "(I)Z"⟩, 10), (⟨"AshLoans", "colourOfMix", "(II)I"⟩, 10), (⟨"AshLoans", "colourOfAsh", "(LAshLoans$Ash;I)I"⟩, 10), (⟨"AshLoans", "drawHedge", "()V"⟩, 10), (⟨"AshLoans", "draw", "()I"⟩, 10), (⟨"AshLoans", "prepareRecipes", "(LAshLoans$Potter;I)V"⟩, 10), (⟨"AshLoans", "fewestFor", "(I)I"⟩, 10), (⟨"AshLoans", "bushelsOfChoice", "(I)I"⟩, 10), (⟨"AshLoans", "colourOfChoice", "(I)I"⟩, 10)]
theorem lw_r1 : ∀ q ∈ lw_privs_1, lw_okq q := List.forall_mem_cons.mpr ⟨lw_p0, List.forall_mem_cons.mpr ⟨lw_p1, List.forall_mem_cons.mpr ⟨lw_p2, List.forall_mem_cons.mpr ⟨lw_p3, List.forall_mem_cons.mpr ⟨lw_p4, List.forall_mem_cons.mpr ⟨lw_p5, List.forall_mem_cons.mpr ⟨lw_p6, List.forall_mem_cons.mpr ⟨lw_p7, List.forall_mem_cons.mpr ⟨lw_p8, List.forall_mem_cons.mpr ⟨lw_p9, List.forall_mem_cons.mpr ⟨lw_p10, List.forall_mem_cons.mpr ⟨lw_p11, List.forall_mem_cons.mpr ⟨lw_p12, List.forall_mem_cons.mpr ⟨lw_p13, List.forall_mem_cons.mpr ⟨lw_p14, List.forall_mem_cons.mpr ⟨lw_p15, fun _ h => absurd h List.not_mem_nil⟩⟩⟩⟩⟩⟩⟩⟩⟩⟩⟩⟩⟩⟩⟩⟩
theorem lw_p16 : lw_okq (⟨"AshLoans", "mixOfChoice", "(I)I"⟩, 10) := ⟨⟨by decide +kernel, by decide +kernel⟩, List.mem_of_getElem? (i := 20) (by decide +kernel), List.mem_of_getElem? (i := 641) (by decide +kernel), List.mem_of_getElem? (i := 642) (by decide +kernel)⟩
theorem lw_p17 : lw_okq (⟨"AshLoans", "heatsGiving", "(II)I"⟩, 10) := ⟨⟨by decide +kernel, by decide +kernel⟩, List.mem_of_getElem? (i := 20) (by decide +kernel), List.mem_of_getElem? (i := 649) (by decide +kernel), List.mem_of_getElem? (i := 650) (by decide +kernel)⟩
theorem lw_p18 : lw_okq (⟨"AshLoans", "canHaveGiven", "(LAshLoans$Ash;LAshLoans$Sheet;)Z"⟩, 10) := ⟨⟨by decide +kernel, by decide +kernel⟩, List.mem_of_getElem? (i := 20) (by decide +kernel), List.mem_of_getElem? (i := 664) (by decide +kernel), List.mem_of_getElem? (i := 665) (by decide +kernel)⟩
theorem lw_p19 : lw_okq (⟨"AshLoans$Voices", "own", "(III)I"⟩, 5) := ⟨⟨by decide +kernel, by decide +kernel⟩, List.mem_of_getElem? (i := 236) (by decide +kernel), List.mem_of_getElem? (i := 709) (by decide +kernel), List.mem_of_getElem? (i := 710) (by decide +kernel)⟩
theorem lw_p20 : lw_okq (⟨"AshLoans$Voices", "from", "(IIII)I"⟩, 5) := ⟨⟨by decide +kernel, by decide +kernel⟩, List.mem_of_getElem? (i := 236) (by decide +kernel), List.mem_of_getElem? (i := 713) (by decide +kernel), List.mem_of_getElem? (i := 714) (by decide +kernel)⟩
theorem lw_p21 : lw_okq (⟨"AshLoans$Voices", "speakBody", "(III)I"⟩, 5) := ⟨⟨by decide +kernel, by decide +kernel⟩, List.mem_of_getElem? (i := 236) (by decide +kernel), List.mem_of_getElem? (i := 720) (by decide +kernel), List.mem_of_getElem? (i := 721) (by decide +kernel)⟩
theorem lw_p22 : lw_okq (⟨"AshLoans$Voices", "note", "(I)V"⟩, 5) := ⟨⟨by decide +kernel, by decide +kernel⟩, List.mem_of_getElem? (i := 236) (by decide +kernel), List.mem_of_getElem? (i := 724) (by decide +kernel), List.mem_of_getElem? (i := 725) (by decide +kernel)⟩
theorem lw_p23 : lw_okq (⟨"AshLoans$Voices", "above", "(IIII)I"⟩, 5) := ⟨⟨by decide +kernel, by decide +kernel⟩, List.mem_of_getElem? (i := 236) (by decide +kernel), List.mem_of_getElem? (i := 728) (by decide +kernel), List.mem_of_getElem? (i := 729) (by decide +kernel)⟩
theorem lw_p24 : lw_okq (⟨"AshLoansModel", "finding", "(I)I"⟩, 23) := ⟨⟨by decide +kernel, by decide +kernel⟩, List.mem_of_getElem? (i := 806) (by decide +kernel), List.mem_of_getElem? (i := 895) (by decide +kernel), List.mem_of_getElem? (i := 896) (by decide +kernel)⟩
theorem lw_p25 : lw_okq (⟨"AshLoansModel", "either", "()V"⟩, 23) := ⟨⟨by decide +kernel, by decide +kernel⟩, List.mem_of_getElem? (i := 806) (by decide +kernel), List.mem_of_getElem? (i := 906) (by decide +kernel), List.mem_of_getElem? (i := 907) (by decide +kernel)⟩
theorem lw_p26 : lw_okq (⟨"AshLoansModel", "both", "()V"⟩, 23) := ⟨⟨by decide +kernel, by decide +kernel⟩, List.mem_of_getElem? (i := 806) (by decide +kernel), List.mem_of_getElem? (i := 910) (by decide +kernel), List.mem_of_getElem? (i := 911) (by decide +kernel)⟩
theorem lw_p27 : lw_okq (⟨"AshLoansModel", "compared", "()V"⟩, 23) := ⟨⟨by decide +kernel, by decide +kernel⟩, List.mem_of_getElem? (i := 806) (by decide +kernel), List.mem_of_getElem? (i := 914) (by decide +kernel), List.mem_of_getElem? (i := 915) (by decide +kernel)⟩
theorem lw_p28 : lw_okq (⟨"AshLoansModel", "sum", "()V"⟩, 23) := ⟨⟨by decide +kernel, by decide +kernel⟩, List.mem_of_getElem? (i := 806) (by decide +kernel), List.mem_of_getElem? (i := 918) (by decide +kernel), List.mem_of_getElem? (i := 919) (by decide +kernel)⟩
theorem lw_p29 : lw_okq (⟨"AshLoansModel", "product", "()V"⟩, 23) := ⟨⟨by decide +kernel, by decide +kernel⟩, List.mem_of_getElem? (i := 806) (by decide +kernel), List.mem_of_getElem? (i := 922) (by decide +kernel), List.mem_of_getElem? (i := 923) (by decide +kernel)⟩
theorem lw_p30 : lw_okq (⟨"AshLoansModel", "one", "()V"⟩, 23) := ⟨⟨by decide +kernel, by decide +kernel⟩, List.mem_of_getElem? (i := 806) (by decide +kernel), List.mem_of_getElem? (i := 926) (by decide +kernel), List.mem_of_getElem? (i := 927) (by decide +kernel)⟩
theorem lw_p31 : lw_okq (⟨"AshLoansModel", "here", "()I"⟩, 23) := ⟨⟨by decide +kernel, by decide +kernel⟩, List.mem_of_getElem? (i := 806) (by decide +kernel), List.mem_of_getElem? (i := 930) (by decide +kernel), List.mem_of_getElem? (i := 931) (by decide +kernel)⟩
def lw_privs_2 : List (MethodName × Nat) := [(⟨"AshLoans", "mixOfChoice", "(I)I"⟩, 10), (⟨"AshLoans", "heatsGiving", "(II)I"⟩, 10), (⟨"AshLoans", "canHaveGiven", "(LAshLoans$Ash;LAshLoans$Sheet;)Z"⟩, 10), (⟨"AshLoans$Voices", "own", "(III)I"⟩, 5), (⟨"AshLoans$Voices", "from", "(IIII)I"⟩, 5), (⟨"AshLoans$Voices", "speakBody", "(III)I"⟩, 5), (⟨"AshLoans$Voices", "note", "(I)V"⟩, 5), (⟨"AshLoans$Voices", "above", "(IIII)I"⟩, 5), (⟨"AshLoansModel", "finding", "(I)I"⟩, 23), (⟨"AshLoansModel", "either", "()V"⟩, 23), (⟨"AshLoansModel", "both", "()V"⟩, 23), (⟨"AshLoansModel", "compared", "()V"⟩, 23), (⟨"AshLoansModel", "sum", "()V"⟩, 23), (⟨"AshLoansModel", "product", "()V"⟩, 23), (⟨"AshLoansModel", "one", "()V"⟩, 23), (⟨"AshLoansModel", "here", "()I"⟩, 23)]
theorem lw_r2 : ∀ q ∈ lw_privs_2, lw_okq q := List.forall_mem_cons.mpr ⟨lw_p16, List.forall_mem_cons.mpr ⟨lw_p17, List.forall_mem_cons.mpr ⟨lw_p18, List.forall_mem_cons.mpr ⟨lw_p19, List.forall_mem_cons.mpr ⟨lw_p20, List.forall_mem_cons.mpr ⟨lw_p21, List.forall_mem_cons.mpr ⟨lw_p22, List.forall_mem_cons.mpr ⟨lw_p23, List.forall_mem_cons.mpr ⟨lw_p24, List.forall_mem_cons.mpr ⟨lw_p25, List.forall_mem_cons.mpr ⟨lw_p26, List.forall_mem_cons.mpr ⟨lw_p27, List.forall_mem_cons.mpr ⟨lw_p28, List.forall_mem_cons.mpr ⟨lw_p29, List.forall_mem_cons.mpr ⟨lw_p30, List.forall_mem_cons.mpr ⟨lw_p31, fun _ h => absurd h List.not_mem_nil⟩⟩⟩⟩⟩⟩⟩⟩⟩⟩⟩⟩⟩⟩⟩⟩
theorem lw_p32 : lw_okq (⟨"AshLoansModel", "codes", "(I)V"⟩, 23) := ⟨⟨by decide +kernel, by decide +kernel⟩, List.mem_of_getElem? (i := 806) (by decide +kernel), List.mem_of_getElem? (i := 934) (by decide +kernel), List.mem_of_getElem? (i := 935) (by decide +kernel)⟩
theorem lw_p33 : lw_okq (⟨"AshLoansModel", "takes", "(I)Z"⟩, 23) := ⟨⟨by decide +kernel, by decide +kernel⟩, List.mem_of_getElem? (i := 806) (by decide +kernel), List.mem_of_getElem? (i := 938) (by decide +kernel), List.mem_of_getElem? (i := 939) (by decide +kernel)⟩
theorem lw_p34 : lw_okq (⟨"AshLoansModel", "nameOf", "(I)I"⟩, 23) := ⟨⟨by decide +kernel, by decide +kernel⟩, List.mem_of_getElem? (i := 806) (by decide +kernel), List.mem_of_getElem? (i := 942) (by decide +kernel), List.mem_of_getElem? (i := 943) (by decide +kernel)⟩
theorem lw_p35 : lw_okq (⟨"AshLoansModel", "given", "(IIII)I"⟩, 23) := ⟨⟨by decide +kernel, by decide +kernel⟩, List.mem_of_getElem? (i := 806) (by decide +kernel), List.mem_of_getElem? (i := 998) (by decide +kernel), List.mem_of_getElem? (i := 999) (by decide +kernel)⟩
theorem lw_p36 : lw_okq (⟨"AshLoansModel", "hasText", "(I)Z"⟩, 23) := ⟨⟨by decide +kernel, by decide +kernel⟩, List.mem_of_getElem? (i := 806) (by decide +kernel), List.mem_of_getElem? (i := 1002) (by decide +kernel), List.mem_of_getElem? (i := 1003) (by decide +kernel)⟩
theorem lw_p37 : lw_okq (⟨"AshLoansModel", "worked", "(I)I"⟩, 23) := ⟨⟨by decide +kernel, by decide +kernel⟩, List.mem_of_getElem? (i := 806) (by decide +kernel), List.mem_of_getElem? (i := 1006) (by decide +kernel), List.mem_of_getElem? (i := 1007) (by decide +kernel)⟩
theorem lw_p38 : lw_okq (⟨"AshLoansModel", "ashComes", "(I)I"⟩, 23) := ⟨⟨by decide +kernel, by decide +kernel⟩, List.mem_of_getElem? (i := 806) (by decide +kernel), List.mem_of_getElem? (i := 1027) (by decide +kernel), List.mem_of_getElem? (i := 1028) (by decide +kernel)⟩
theorem lw_p39 : lw_okq (⟨"AshLoansModel", "isAsh", "(I)Z"⟩, 23) := ⟨⟨by decide +kernel, by decide +kernel⟩, List.mem_of_getElem? (i := 806) (by decide +kernel), List.mem_of_getElem? (i := 1041) (by decide +kernel), List.mem_of_getElem? (i := 1042) (by decide +kernel)⟩
theorem lw_p40 : lw_okq (⟨"AshLoansModel", "allOf", "(I)I"⟩, 23) := ⟨⟨by decide +kernel, by decide +kernel⟩, List.mem_of_getElem? (i := 806) (by decide +kernel), List.mem_of_getElem? (i := 1045) (by decide +kernel), List.mem_of_getElem? (i := 1046) (by decide +kernel)⟩
theorem lw_p41 : lw_okq (⟨"AshLoansModel", "ashIs", "(II)I"⟩, 23) := ⟨⟨by decide +kernel, by decide +kernel⟩, List.mem_of_getElem? (i := 806) (by decide +kernel), List.mem_of_getElem? (i := 1049) (by decide +kernel), List.mem_of_getElem? (i := 1050) (by decide +kernel)⟩
theorem lw_p42 : lw_okq (⟨"AshLoansModel", "turn", "(II)I"⟩, 23) := ⟨⟨by decide +kernel, by decide +kernel⟩, List.mem_of_getElem? (i := 806) (by decide +kernel), List.mem_of_getElem? (i := 1057) (by decide +kernel), List.mem_of_getElem? (i := 1058) (by decide +kernel)⟩
theorem lw_p43 : lw_okq (⟨"AshLoansModel", "isPotter", "(I)Z"⟩, 23) := ⟨⟨by decide +kernel, by decide +kernel⟩, List.mem_of_getElem? (i := 806) (by decide +kernel), List.mem_of_getElem? (i := 1087) (by decide +kernel), List.mem_of_getElem? (i := 1088) (by decide +kernel)⟩
theorem lw_p44 : lw_okq (⟨"AshLoansModel", "loansOf", "(II)I"⟩, 23) := ⟨⟨by decide +kernel, by decide +kernel⟩, List.mem_of_getElem? (i := 806) (by decide +kernel), List.mem_of_getElem? (i := 1091) (by decide +kernel), List.mem_of_getElem? (i := 1092) (by decide +kernel)⟩
theorem lw_p45 : lw_okq (⟨"AshLoansModel", "loanIs", "(II)I"⟩, 23) := ⟨⟨by decide +kernel, by decide +kernel⟩, List.mem_of_getElem? (i := 806) (by decide +kernel), List.mem_of_getElem? (i := 1095) (by decide +kernel), List.mem_of_getElem? (i := 1096) (by decide +kernel)⟩
theorem lw_p46 : lw_okq (⟨"AshLoansModel", "isMix", "(I)Z"⟩, 23) := ⟨⟨by decide +kernel, by decide +kernel⟩, List.mem_of_getElem? (i := 806) (by decide +kernel), List.mem_of_getElem? (i := 1114) (by decide +kernel), List.mem_of_getElem? (i := 1115) (by decide +kernel)⟩
theorem lw_p47 : lw_okq (⟨"AshLoansModel", "isForbidden", "(II)Z"⟩, 23) := ⟨⟨by decide +kernel, by decide +kernel⟩, List.mem_of_getElem? (i := 806) (by decide +kernel), List.mem_of_getElem? (i := 1125) (by decide +kernel), List.mem_of_getElem? (i := 1126) (by decide +kernel)⟩
def lw_privs_3 : List (MethodName × Nat) := [(⟨"AshLoansModel", "codes", "(I)V"⟩, 23), (⟨"AshLoansModel", "takes", "(I)Z"⟩, 23), (⟨"AshLoansModel", "nameOf", "(I)I"⟩, 23), (⟨"AshLoansModel", "given", "(IIII)I"⟩, 23), (⟨"AshLoansModel", "hasText", "(I)Z"⟩, 23), (⟨"AshLoansModel", "worked", "(I)I"⟩, 23), (⟨"AshLoansModel", "ashComes", "(I)I"⟩, 23), (⟨"AshLoansModel", "isAsh", "(I)Z"⟩, 23), (⟨"AshLoansModel", "allOf", "(I)I"⟩, 23), (⟨"AshLoansModel", "ashIs", "(II)I"⟩, 23), (⟨"AshLoansModel", "turn", "(II)I"⟩, 23), (⟨"AshLoansModel", "isPotter", "(I)Z"⟩, 23), (⟨"AshLoansModel", "loansOf", "(II)I"⟩, 23), (⟨"AshLoansModel", "loanIs", "(II)I"⟩, 23), (⟨"AshLoansModel", "isMix", "(I)Z"⟩, 23), (⟨"AshLoansModel", "isForbidden", "(II)Z"⟩, 23)]
theorem lw_r3 : ∀ q ∈ lw_privs_3, lw_okq q := List.forall_mem_cons.mpr ⟨lw_p32, List.forall_mem_cons.mpr ⟨lw_p33, List.forall_mem_cons.mpr ⟨lw_p34, List.forall_mem_cons.mpr ⟨lw_p35, List.forall_mem_cons.mpr ⟨lw_p36, List.forall_mem_cons.mpr ⟨lw_p37, List.forall_mem_cons.mpr ⟨lw_p38, List.forall_mem_cons.mpr ⟨lw_p39, List.forall_mem_cons.mpr ⟨lw_p40, List.forall_mem_cons.mpr ⟨lw_p41, List.forall_mem_cons.mpr ⟨lw_p42, List.forall_mem_cons.mpr ⟨lw_p43, List.forall_mem_cons.mpr ⟨lw_p44, List.forall_mem_cons.mpr ⟨lw_p45, List.forall_mem_cons.mpr ⟨lw_p46, List.forall_mem_cons.mpr ⟨lw_p47, fun _ h => absurd h List.not_mem_nil⟩⟩⟩⟩⟩⟩⟩⟩⟩⟩⟩⟩⟩⟩⟩⟩
theorem lw_p48 : lw_okq (⟨"AshLoansModel", "mixColour", "(II)I"⟩, 23) := ⟨⟨by decide +kernel, by decide +kernel⟩, List.mem_of_getElem? (i := 806) (by decide +kernel), List.mem_of_getElem? (i := 1129) (by decide +kernel), List.mem_of_getElem? (i := 1130) (by decide +kernel)⟩
theorem lw_p49 : lw_okq (⟨"AshLoansModel", "colourOf", "(II)I"⟩, 23) := ⟨⟨by decide +kernel, by decide +kernel⟩, List.mem_of_getElem? (i := 806) (by decide +kernel), List.mem_of_getElem? (i := 1133) (by decide +kernel), List.mem_of_getElem? (i := 1134) (by decide +kernel)⟩
theorem lw_p50 : lw_okq (⟨"AshLoansModel", "hasAll", "(II)Z"⟩, 23) := ⟨⟨by decide +kernel, by decide +kernel⟩, List.mem_of_getElem? (i := 806) (by decide +kernel), List.mem_of_getElem? (i := 1145) (by decide +kernel), List.mem_of_getElem? (i := 1146) (by decide +kernel)⟩
theorem lw_p51 : lw_okq (⟨"AshLoansModel", "firesNow", "(III)I"⟩, 23) := ⟨⟨by decide +kernel, by decide +kernel⟩, List.mem_of_getElem? (i := 806) (by decide +kernel), List.mem_of_getElem? (i := 1150) (by decide +kernel), List.mem_of_getElem? (i := 1151) (by decide +kernel)⟩
theorem lw_p52 : lw_okq (⟨"AshLoansModel", "canLend", "(IIII)Z"⟩, 23) := ⟨⟨by decide +kernel, by decide +kernel⟩, List.mem_of_getElem? (i := 806) (by decide +kernel), List.mem_of_getElem? (i := 1158) (by decide +kernel), List.mem_of_getElem? (i := 1159) (by decide +kernel)⟩
theorem lw_p53 : lw_okq (⟨"AshLoansModel", "lendNow", "(IIIII)I"⟩, 23) := ⟨⟨by decide +kernel, by decide +kernel⟩, List.mem_of_getElem? (i := 806) (by decide +kernel), List.mem_of_getElem? (i := 1162) (by decide +kernel), List.mem_of_getElem? (i := 1163) (by decide +kernel)⟩
theorem lw_p54 : lw_okq (⟨"AshLoansModel", "isLoan", "(I)Z"⟩, 23) := ⟨⟨by decide +kernel, by decide +kernel⟩, List.mem_of_getElem? (i := 806) (by decide +kernel), List.mem_of_getElem? (i := 1170) (by decide +kernel), List.mem_of_getElem? (i := 1171) (by decide +kernel)⟩
theorem lw_p55 : lw_okq (⟨"AshLoansModel", "canGiveBack", "(I)Z"⟩, 23) := ⟨⟨by decide +kernel, by decide +kernel⟩, List.mem_of_getElem? (i := 806) (by decide +kernel), List.mem_of_getElem? (i := 1178) (by decide +kernel), List.mem_of_getElem? (i := 1179) (by decide +kernel)⟩
theorem lw_p56 : lw_okq (⟨"AshLoansModel", "givesBack", "(I)I"⟩, 23) := ⟨⟨by decide +kernel, by decide +kernel⟩, List.mem_of_getElem? (i := 806) (by decide +kernel), List.mem_of_getElem? (i := 1182) (by decide +kernel), List.mem_of_getElem? (i := 1183) (by decide +kernel)⟩
theorem lw_p57 : lw_okq (⟨"AshLoansModel", "goes", "(I)V"⟩, 23) := ⟨⟨by decide +kernel, by decide +kernel⟩, List.mem_of_getElem? (i := 806) (by decide +kernel), List.mem_of_getElem? (i := 1186) (by decide +kernel), List.mem_of_getElem? (i := 1187) (by decide +kernel)⟩
theorem lw_p58 : lw_okq (⟨"AshLoansModel", "daysGo", "(I)V"⟩, 23) := ⟨⟨by decide +kernel, by decide +kernel⟩, List.mem_of_getElem? (i := 806) (by decide +kernel), List.mem_of_getElem? (i := 1194) (by decide +kernel), List.mem_of_getElem? (i := 1195) (by decide +kernel)⟩
theorem lw_p59 : lw_okq (⟨"AshLoansModel", "day", "()V"⟩, 23) := ⟨⟨by decide +kernel, by decide +kernel⟩, List.mem_of_getElem? (i := 806) (by decide +kernel), List.mem_of_getElem? (i := 1198) (by decide +kernel), List.mem_of_getElem? (i := 1199) (by decide +kernel)⟩
theorem lw_p60 : lw_okq (⟨"AshLoansModel", "breaksOne", "(I)V"⟩, 23) := ⟨⟨by decide +kernel, by decide +kernel⟩, List.mem_of_getElem? (i := 806) (by decide +kernel), List.mem_of_getElem? (i := 1202) (by decide +kernel), List.mem_of_getElem? (i := 1203) (by decide +kernel)⟩
theorem lw_p61 : lw_okq (⟨"AshLoansModel", "drawn", "()I"⟩, 23) := ⟨⟨by decide +kernel, by decide +kernel⟩, List.mem_of_getElem? (i := 806) (by decide +kernel), List.mem_of_getElem? (i := 1210) (by decide +kernel), List.mem_of_getElem? (i := 1211) (by decide +kernel)⟩
theorem lw_p62 : lw_okq (⟨"AshLoansModel", "putBack", "(I)I"⟩, 23) := ⟨⟨by decide +kernel, by decide +kernel⟩, List.mem_of_getElem? (i := 806) (by decide +kernel), List.mem_of_getElem? (i := 1222) (by decide +kernel), List.mem_of_getElem? (i := 1223) (by decide +kernel)⟩
theorem lw_p63 : lw_okq (⟨"AshLoansModel", "heatsOf", "(II)I"⟩, 23) := ⟨⟨by decide +kernel, by decide +kernel⟩, List.mem_of_getElem? (i := 806) (by decide +kernel), List.mem_of_getElem? (i := 1245) (by decide +kernel), List.mem_of_getElem? (i := 1246) (by decide +kernel)⟩
def lw_privs_4 : List (MethodName × Nat) := [(⟨"AshLoansModel", "mixColour", "(II)I"⟩, 23), (⟨"AshLoansModel", "colourOf", "(II)I"⟩, 23), (⟨"AshLoansModel", "hasAll", "(II)Z"⟩, 23), (⟨"AshLoansModel", "firesNow", "(III)I"⟩, 23), (⟨"AshLoansModel", "canLend", "(IIII)Z"⟩, 23), (⟨"AshLoansModel", "lendNow", "(IIIII)I"⟩, 23), (⟨"AshLoansModel", "isLoan", "(I)Z"⟩, 23), (⟨"AshLoansModel", "canGiveBack", "(I)Z"⟩, 23), (⟨"AshLoansModel", "givesBack", "(I)I"⟩, 23), (⟨"AshLoansModel", "goes", "(I)V"⟩, 23), (⟨"AshLoansModel", "daysGo", "(I)V"⟩, 23), (⟨"AshLoansModel", "day", "()V"⟩, 23), (⟨"AshLoansModel", "breaksOne", "(I)V"⟩, 23), (⟨"AshLoansModel", "drawn", "()I"⟩, 23), (⟨"AshLoansModel", "putBack", "(I)I"⟩, 23), (⟨"AshLoansModel", "heatsOf", "(II)I"⟩, 23)]
theorem lw_r4 : ∀ q ∈ lw_privs_4, lw_okq q := List.forall_mem_cons.mpr ⟨lw_p48, List.forall_mem_cons.mpr ⟨lw_p49, List.forall_mem_cons.mpr ⟨lw_p50, List.forall_mem_cons.mpr ⟨lw_p51, List.forall_mem_cons.mpr ⟨lw_p52, List.forall_mem_cons.mpr ⟨lw_p53, List.forall_mem_cons.mpr ⟨lw_p54, List.forall_mem_cons.mpr ⟨lw_p55, List.forall_mem_cons.mpr ⟨lw_p56, List.forall_mem_cons.mpr ⟨lw_p57, List.forall_mem_cons.mpr ⟨lw_p58, List.forall_mem_cons.mpr ⟨lw_p59, List.forall_mem_cons.mpr ⟨lw_p60, List.forall_mem_cons.mpr ⟨lw_p61, List.forall_mem_cons.mpr ⟨lw_p62, List.forall_mem_cons.mpr ⟨lw_p63, fun _ h => absurd h List.not_mem_nil⟩⟩⟩⟩⟩⟩⟩⟩⟩⟩⟩⟩⟩⟩⟩⟩
theorem lw_p64 : lw_okq (⟨"AshLoansModel", "has", "(III)I"⟩, 23) := ⟨⟨by decide +kernel, by decide +kernel⟩, List.mem_of_getElem? (i := 806) (by decide +kernel), List.mem_of_getElem? (i := 1260) (by decide +kernel), List.mem_of_getElem? (i := 1261) (by decide +kernel)⟩
theorem lw_p65 : lw_okq (⟨"AshLoansModel", "brokenIfLent", "(IIIII)I"⟩, 23) := ⟨⟨by decide +kernel, by decide +kernel⟩, List.mem_of_getElem? (i := 806) (by decide +kernel), List.mem_of_getElem? (i := 1268) (by decide +kernel), List.mem_of_getElem? (i := 1269) (by decide +kernel)⟩
theorem lw_p66 : lw_okq (⟨"AshLoansModel", "brokenAll", "()I"⟩, 23) := ⟨⟨by decide +kernel, by decide +kernel⟩, List.mem_of_getElem? (i := 806) (by decide +kernel), List.mem_of_getElem? (i := 1272) (by decide +kernel), List.mem_of_getElem? (i := 1273) (by decide +kernel)⟩
theorem lw_p67 : lw_okq (⟨"AshLoansModel", "burnsOf", "(I)I"⟩, 23) := ⟨⟨by decide +kernel, by decide +kernel⟩, List.mem_of_getElem? (i := 806) (by decide +kernel), List.mem_of_getElem? (i := 1288) (by decide +kernel), List.mem_of_getElem? (i := 1289) (by decide +kernel)⟩
theorem lw_p68 : lw_okq (⟨"AshLoansModel", "ran", "(I)V"⟩, 23) := ⟨⟨by decide +kernel, by decide +kernel⟩, List.mem_of_getElem? (i := 806) (by decide +kernel), List.mem_of_getElem? (i := 1292) (by decide +kernel), List.mem_of_getElem? (i := 1293) (by decide +kernel)⟩
theorem lw_p69 : lw_okq (⟨"AshLoansModel", "meltsOf", "(I)I"⟩, 23) := ⟨⟨by decide +kernel, by decide +kernel⟩, List.mem_of_getElem? (i := 806) (by decide +kernel), List.mem_of_getElem? (i := 1296) (by decide +kernel), List.mem_of_getElem? (i := 1297) (by decide +kernel)⟩
theorem lw_p70 : lw_okq (⟨"AshLoansModel", "runsOf", "(I)I"⟩, 23) := ⟨⟨by decide +kernel, by decide +kernel⟩, List.mem_of_getElem? (i := 806) (by decide +kernel), List.mem_of_getElem? (i := 1300) (by decide +kernel), List.mem_of_getElem? (i := 1301) (by decide +kernel)⟩
theorem lw_p71 : lw_okq (⟨"AshLoansModel", "glowsOf", "(I)I"⟩, 23) := ⟨⟨by decide +kernel, by decide +kernel⟩, List.mem_of_getElem? (i := 806) (by decide +kernel), List.mem_of_getElem? (i := 1304) (by decide +kernel), List.mem_of_getElem? (i := 1305) (by decide +kernel)⟩
theorem lw_p72 : lw_okq (⟨"AshLoansModel", "plainGlows", "(I)I"⟩, 23) := ⟨⟨by decide +kernel, by decide +kernel⟩, List.mem_of_getElem? (i := 806) (by decide +kernel), List.mem_of_getElem? (i := 1308) (by decide +kernel), List.mem_of_getElem? (i := 1309) (by decide +kernel)⟩
theorem lw_p73 : lw_okq (⟨"AshLoansModel", "potsAll", "()I"⟩, 23) := ⟨⟨by decide +kernel, by decide +kernel⟩, List.mem_of_getElem? (i := 806) (by decide +kernel), List.mem_of_getElem? (i := 1356) (by decide +kernel), List.mem_of_getElem? (i := 1357) (by decide +kernel)⟩
def lw_privs_5 : List (MethodName × Nat) := [(⟨"AshLoansModel", "has", "(III)I"⟩, 23), (⟨"AshLoansModel", "brokenIfLent", "(IIIII)I"⟩, 23), (⟨"AshLoansModel", "brokenAll", "()I"⟩, 23), (⟨"AshLoansModel", "burnsOf", "(I)I"⟩, 23), (⟨"AshLoansModel", "ran", "(I)V"⟩, 23), (⟨"AshLoansModel", "meltsOf", "(I)I"⟩, 23), (⟨"AshLoansModel", "runsOf", "(I)I"⟩, 23), (⟨"AshLoansModel", "glowsOf", "(I)I"⟩, 23), (⟨"AshLoansModel", "plainGlows", "(I)I"⟩, 23), (⟨"AshLoansModel", "potsAll", "()I"⟩, 23)]
theorem lw_r5 : ∀ q ∈ lw_privs_5, lw_okq q := List.forall_mem_cons.mpr ⟨lw_p64, List.forall_mem_cons.mpr ⟨lw_p65, List.forall_mem_cons.mpr ⟨lw_p66, List.forall_mem_cons.mpr ⟨lw_p67, List.forall_mem_cons.mpr ⟨lw_p68, List.forall_mem_cons.mpr ⟨lw_p69, List.forall_mem_cons.mpr ⟨lw_p70, List.forall_mem_cons.mpr ⟨lw_p71, List.forall_mem_cons.mpr ⟨lw_p72, List.forall_mem_cons.mpr ⟨lw_p73, fun _ h => absurd h List.not_mem_nil⟩⟩⟩⟩⟩⟩⟩⟩⟩⟩
def lw_privs : List (MethodName × Nat) := lw_privs_1 ++ (lw_privs_2 ++ (lw_privs_3 ++ (lw_privs_4 ++ (lw_privs_5))))
def lw_tbl : List Cond := k2_sels lw_privs ++ tables_1
theorem lw_privs_ok : ∀ q ∈ lw_privs, lw_okq q := by
  show ∀ q ∈ lw_privs_1 ++ (lw_privs_2 ++ (lw_privs_3 ++ (lw_privs_4 ++ (lw_privs_5)))), lw_okq q
  exact List.forall_mem_append.mpr ⟨lw_r1, List.forall_mem_append.mpr ⟨lw_r2, List.forall_mem_append.mpr ⟨lw_r3, List.forall_mem_append.mpr ⟨lw_r4, lw_r5⟩⟩⟩⟩
end
section
/-! ===== BEGIN words of one list among another's, by their places ===== -/
theorem goodIn_r {big : List Cond} (ws : List Cond) (ps : List Nat) (hp : ws = ps.filterMap (fun i => big[i]?)) (h : ws.all goodWord = true) : GoodIn big ws := by
  intro w hw
  have h1 := List.all_eq_true.mp h w hw
  rw [hp] at hw
  obtain ⟨i, -, hi⟩ := List.mem_filterMap.mp hw
  have hm : w ∈ big := by first | exact List.mem_of_getElem? hi | exact List.getElem?_mem hi
  exact ⟨hm, good_of_word h1⟩
theorem goodIn_app {big a b : List Cond} (ha : GoodIn big a) (hb : GoodIn big b) : GoodIn big (a ++ b) := fun w h => (List.mem_append.mp h).elim (ha w) (hb w)
theorem goodIn_ca {big a b : List Cond} {c : Cond} (ha : GoodIn big (c :: a)) (hb : GoodIn big b) : GoodIn big (c :: (a ++ b)) := fun w h => (List.mem_cons.mp h).elim (fun e => ha w (List.mem_cons.mpr (Or.inl e))) (fun h => (List.mem_append.mp h).elim (fun h => ha w (List.mem_cons.mpr (Or.inr h))) (hb w))
theorem goodIn_sub {big ws : List Cond} (hm : ∀ w ∈ ws, w ∈ big) (h : ws.all goodWord = true) : GoodIn big ws := fun w hw => ⟨hm w hw, good_of_word (List.all_eq_true.mp h w hw)⟩
/-! ===== END ===== -/

/-! ===== BEGIN printed: names, fields, word lists, decode rows ===== -/
def RX0 : String := "AshLoans$Ash"
def TX0 : u_T := fun k => match k with
  | 0 => ("AshLoans$Ash", "kind", "I", false)
  | 1 => ("AshLoans$Ash", "m", "I", false)
  | 2 => ("AshLoans$Ash", "growth", "I", false)
  | _ => ("AshLoans$Ash", "goesTo", "I", false)
def tyX0 : Nat → FieldType := fun k => match k with
  | 0 => .int
  | 1 => .int
  | 2 => .int
  | _ => .int
abbrev wsX00 : List Cond := u_ws RX0 TX0 4
theorem nmX0 : ∀ a, a < 4 → ∀ b, b < 4 → a ≠ b → (TX0 a).2.1 ≠ (TX0 b).2.1 := by decide +kernel
theorem tyX0_ok : ∀ k, k < 4 → parseFieldDescriptor (TX0 k).2.2.1 = some (tyX0 k) := by decide +kernel
abbrev cX0_init : ByteArray := prog_2_method_1_code
def yX0_init : MethodName := ⟨RX0, "<init>", "()V"⟩
abbrev cX0_begin : ByteArray := prog_2_method_2_code
def yX0_begin : MethodName := ⟨RX0, "begin", "(I)V"⟩
abbrev cX0_copy : ByteArray := prog_2_method_3_code
def yX0_copy : MethodName := ⟨RX0, "copy", "(LAshLoans$Ash;)V"⟩
abbrev cX0_isForbiddenAt : ByteArray := prog_2_method_4_code
def yX0_isForbiddenAt : MethodName := ⟨RX0, "isForbiddenAt", "(I)Z"⟩
def RX1 : String := "AshLoans$County"
def TX1 : u_T := fun k => match k with
  | 0 => ("AshLoans$County", "ashes", "[LAshLoans$Ash;", true)
  | 1 => ("AshLoans$County", "potters", "[LAshLoans$Potter;", true)
  | 2 => ("AshLoans$County", "loans", "[LAshLoans$Loan;", true)
  | 3 => ("AshLoans$County", "ashCount", "I", false)
  | 4 => ("AshLoans$County", "potterCount", "I", false)
  | 5 => ("AshLoans$County", "loanCount", "I", false)
  | _ => ("AshLoans$County", "day", "I", false)
def tyX1 : Nat → FieldType := fun k => match k with
  | 0 => .array (.object "AshLoans$Ash")
  | 1 => .array (.object "AshLoans$Potter")
  | 2 => .array (.object "AshLoans$Loan")
  | 3 => .int
  | 4 => .int
  | 5 => .int
  | _ => .int
abbrev wsX10 : List Cond := u_ws RX1 TX1 7
theorem nmX1 : ∀ a, a < 7 → ∀ b, b < 7 → a ≠ b → (TX1 a).2.1 ≠ (TX1 b).2.1 := by decide +kernel
theorem tyX1_ok : ∀ k, k < 7 → parseFieldDescriptor (TX1 k).2.2.1 = some (tyX1 k) := by decide +kernel
abbrev cX1_init : ByteArray := prog_3_method_1_code
def yX1_init : MethodName := ⟨RX1, "<init>", "()V"⟩
abbrev cX1_copy : ByteArray := prog_3_method_2_code
def yX1_copy : MethodName := ⟨RX1, "copy", "(LAshLoans$County;)V"⟩
abbrev cX1_hasAsh : ByteArray := prog_3_method_3_code
def yX1_hasAsh : MethodName := ⟨RX1, "hasAsh", "(I)Z"⟩
abbrev cX1_hasPotter : ByteArray := prog_3_method_4_code
def yX1_hasPotter : MethodName := ⟨RX1, "hasPotter", "(I)Z"⟩
abbrev cX1_hasLoan : ByteArray := prog_3_method_5_code
def yX1_hasLoan : MethodName := ⟨RX1, "hasLoan", "(I)Z"⟩
abbrev cX1_bushelsOfAll : ByteArray := prog_3_method_6_code
def yX1_bushelsOfAll : MethodName := ⟨RX1, "bushelsOfAll", "(I)I"⟩
abbrev cX1_potsOfAll : ByteArray := prog_3_method_7_code
def yX1_potsOfAll : MethodName := ⟨RX1, "potsOfAll", "()I"⟩
abbrev cX1_brokenOfAll : ByteArray := prog_3_method_8_code
def yX1_brokenOfAll : MethodName := ⟨RX1, "brokenOfAll", "()I"⟩
abbrev cX1_loansHeldBy : ByteArray := prog_3_method_9_code
def yX1_loansHeldBy : MethodName := ⟨RX1, "loansHeldBy", "(I)I"⟩
abbrev cX1_owedTo : ByteArray := prog_3_method_10_code
def yX1_owedTo : MethodName := ⟨RX1, "owedTo", "(I)I"⟩
abbrev cX1_lentBetween : ByteArray := prog_3_method_11_code
def yX1_lentBetween : MethodName := ⟨RX1, "lentBetween", "(III)I"⟩
abbrev cX1_canLend : ByteArray := prog_3_method_12_code
def yX1_canLend : MethodName := ⟨RX1, "canLend", "(IIII)Z"⟩
abbrev cX1_addLoan : ByteArray := prog_3_method_13_code
def yX1_addLoan : MethodName := ⟨RX1, "addLoan", "(IIIII)V"⟩
abbrev cX1_canGiveBack : ByteArray := prog_3_method_14_code
def yX1_canGiveBack : MethodName := ⟨RX1, "canGiveBack", "(LAshLoans$Loan;)Z"⟩
abbrev cX1_giveBack : ByteArray := prog_3_method_15_code
def yX1_giveBack : MethodName := ⟨RX1, "giveBack", "(ILAshLoans$Law;)I"⟩
abbrev cX1_breakOff : ByteArray := prog_3_method_16_code
def yX1_breakOff : MethodName := ⟨RX1, "breakOff", "(I)V"⟩
abbrev cX1_drop : ByteArray := prog_3_method_17_code
def yX1_drop : MethodName := ⟨RX1, "drop", "(I)V"⟩
abbrev cX1_passDays : ByteArray := prog_3_method_18_code
def yX1_passDays : MethodName := ⟨RX1, "passDays", "(ILAshLoans$Law;)V"⟩
abbrev cX1_growHedges : ByteArray := prog_3_method_19_code
def yX1_growHedges : MethodName := ⟨RX1, "growHedges", "()V"⟩
abbrev cX1_settleLoans : ByteArray := prog_3_method_20_code
def yX1_settleLoans : MethodName := ⟨RX1, "settleLoans", "(LAshLoans$Law;)V"⟩
def RX2 : String := "AshLoans$Law"
def TX2 : u_T := fun k => match k with
  | 0 => ("AshLoans$Law", "use", "I", true)
  | 1 => ("AshLoans$Law", "code", "[I", true)
  | 2 => ("AshLoans$Law", "stack", "[I", true)
  | _ => ("AshLoans$Law", "size", "I", false)
def tyX2 : Nat → FieldType := fun k => match k with
  | 0 => .int
  | 1 => .array .int
  | 2 => .array .int
  | _ => .int
abbrev wsX20 : List Cond := u_ws RX2 TX2 4
theorem nmX2 : ∀ a, a < 4 → ∀ b, b < 4 → a ≠ b → (TX2 a).2.1 ≠ (TX2 b).2.1 := by decide +kernel
theorem tyX2_ok : ∀ k, k < 4 → parseFieldDescriptor (TX2 k).2.2.1 = some (tyX2 k) := by decide +kernel
abbrev cX2_init : ByteArray := prog_4_method_1_code
def yX2_init : MethodName := ⟨RX2, "<init>", "(I)V"⟩
abbrev cX2_take : ByteArray := prog_4_method_2_code
def yX2_take : MethodName := ⟨RX2, "take", "([II)V"⟩
abbrev cX2_gives : ByteArray := prog_4_method_3_code
def yX2_gives : MethodName := ⟨RX2, "gives", "(III)I"⟩
abbrev cX2_withoutText : ByteArray := prog_4_method_4_code
def yX2_withoutText : MethodName := ⟨RX2, "withoutText", "(II)I"⟩
abbrev cX2_worth : ByteArray := prog_4_method_5_code
def yX2_worth : MethodName := ⟨RX2, "worth", "(III)I"⟩
abbrev cX2_joined : ByteArray := prog_4_method_6_code
def yX2_joined : MethodName := ⟨RX2, "joined", "(III)I"⟩
def RX3 : String := "AshLoans$Loan"
def TX3 : u_T := fun k => match k with
  | 0 => ("AshLoans$Loan", "from", "I", false)
  | 1 => ("AshLoans$Loan", "to", "I", false)
  | 2 => ("AshLoans$Loan", "ash", "I", false)
  | 3 => ("AshLoans$Loan", "bushels", "I", false)
  | _ => ("AshLoans$Loan", "due", "I", false)
def tyX3 : Nat → FieldType := fun k => match k with
  | 0 => .int
  | 1 => .int
  | 2 => .int
  | 3 => .int
  | _ => .int
abbrev wsX30 : List Cond := u_ws RX3 TX3 5
theorem nmX3 : ∀ a, a < 5 → ∀ b, b < 5 → a ≠ b → (TX3 a).2.1 ≠ (TX3 b).2.1 := by decide +kernel
theorem tyX3_ok : ∀ k, k < 5 → parseFieldDescriptor (TX3 k).2.2.1 = some (tyX3 k) := by decide +kernel
abbrev cX3_init : ByteArray := prog_5_method_1_code
def yX3_init : MethodName := ⟨RX3, "<init>", "()V"⟩
abbrev cX3_copy : ByteArray := prog_5_method_2_code
def yX3_copy : MethodName := ⟨RX3, "copy", "(LAshLoans$Loan;)V"⟩
def RX4 : String := "AshLoans$Potter"
def TX4 : u_T := fun k => match k with
  | 0 => ("AshLoans$Potter", "bushels", "[I", true)
  | 1 => ("AshLoans$Potter", "pots", "I", false)
  | _ => ("AshLoans$Potter", "broken", "I", false)
def tyX4 : Nat → FieldType := fun k => match k with
  | 0 => .array .int
  | 1 => .int
  | _ => .int
abbrev wsX40 : List Cond := u_ws RX4 TX4 3
theorem nmX4 : ∀ a, a < 3 → ∀ b, b < 3 → a ≠ b → (TX4 a).2.1 ≠ (TX4 b).2.1 := by decide +kernel
theorem tyX4_ok : ∀ k, k < 3 → parseFieldDescriptor (TX4 k).2.2.1 = some (tyX4 k) := by decide +kernel
abbrev cX4_init : ByteArray := prog_6_method_1_code
def yX4_init : MethodName := ⟨RX4, "<init>", "()V"⟩
abbrev cX4_begin : ByteArray := prog_6_method_2_code
def yX4_begin : MethodName := ⟨RX4, "begin", "()V"⟩
abbrev cX4_copy : ByteArray := prog_6_method_3_code
def yX4_copy : MethodName := ⟨RX4, "copy", "(LAshLoans$Potter;)V"⟩
abbrev cX4_has : ByteArray := prog_6_method_4_code
def yX4_has : MethodName := ⟨RX4, "has", "(I)Z"⟩
abbrev cX4_burn : ByteArray := prog_6_method_5_code
def yX4_burn : MethodName := ⟨RX4, "burn", "(I)V"⟩
abbrev cX4_change : ByteArray := prog_6_method_6_code
def yX4_change : MethodName := ⟨RX4, "change", "(II)V"⟩
def RX5 : String := "AshLoans$Reader"
def TX5 : u_T := fun k => match k with
  | 0 => ("AshLoans$Reader", "bytes", "[I", true)
  | 1 => ("AshLoans$Reader", "code", "[I", true)
  | 2 => ("AshLoans$Reader", "length", "I", false)
  | 3 => ("AshLoans$Reader", "size", "I", false)
  | 4 => ("AshLoans$Reader", "use", "I", false)
  | _ => ("AshLoans$Reader", "place", "I", false)
def tyX5 : Nat → FieldType := fun k => match k with
  | 0 => .array .int
  | 1 => .array .int
  | 2 => .int
  | 3 => .int
  | 4 => .int
  | _ => .int
abbrev wsX50 : List Cond := u_ws RX5 TX5 6
theorem nmX5 : ∀ a, a < 6 → ∀ b, b < 6 → a ≠ b → (TX5 a).2.1 ≠ (TX5 b).2.1 := by decide +kernel
theorem tyX5_ok : ∀ k, k < 6 → parseFieldDescriptor (TX5 k).2.2.1 = some (tyX5 k) := by decide +kernel
abbrev cX5_init : ByteArray := prog_7_method_1_code
def yX5_init : MethodName := ⟨RX5, "<init>", "()V"⟩
abbrev cX5_reads : ByteArray := prog_7_method_2_code
def yX5_reads : MethodName := ⟨RX5, "reads", "([III)Z"⟩
abbrev cX5_readLevel : ByteArray := prog_7_method_3_code
def yX5_readLevel : MethodName := ⟨RX5, "readLevel", "(II)Z"⟩
abbrev cX5_readPart : ByteArray := prog_7_method_4_code
def yX5_readPart : MethodName := ⟨RX5, "readPart", "(I)Z"⟩
abbrev cX5_readNumber : ByteArray := prog_7_method_5_code
def yX5_readNumber : MethodName := ⟨RX5, "readNumber", "()Z"⟩
abbrev cX5_readName : ByteArray := prog_7_method_6_code
def yX5_readName : MethodName := ⟨RX5, "readName", "(I)Z"⟩
abbrev cX5_next : ByteArray := prog_7_method_7_code
def yX5_next : MethodName := ⟨RX5, "next", "()I"⟩
abbrev cX5_add : ByteArray := prog_7_method_8_code
def yX5_add : MethodName := ⟨RX5, "add", "(I)V"⟩
abbrev cX5_isDigit : ByteArray := prog_7_method_9_code
def yX5_isDigit : MethodName := ⟨RX5, "isDigit", "(I)Z"⟩
abbrev cX5_levelOf : ByteArray := prog_7_method_10_code
def yX5_levelOf : MethodName := ⟨RX5, "levelOf", "(I)I"⟩
def RX6 : String := "AshLoans$Sheet"
def TX6 : u_T := fun k => match k with
  | 0 => ("AshLoans$Sheet", "numbers", "[I", true)
  | 1 => ("AshLoans$Sheet", "bits", "I", false)
  | _ => ("AshLoans$Sheet", "size", "I", false)
def tyX6 : Nat → FieldType := fun k => match k with
  | 0 => .array .int
  | 1 => .int
  | _ => .int
abbrev wsX60 : List Cond := u_ws RX6 TX6 3
theorem nmX6 : ∀ a, a < 3 → ∀ b, b < 3 → a ≠ b → (TX6 a).2.1 ≠ (TX6 b).2.1 := by decide +kernel
theorem tyX6_ok : ∀ k, k < 3 → parseFieldDescriptor (TX6 k).2.2.1 = some (tyX6 k) := by decide +kernel
abbrev cX6_init : ByteArray := prog_8_method_1_code
def yX6_init : MethodName := ⟨RX6, "<init>", "()V"⟩
abbrev cX6_begin : ByteArray := prog_8_method_2_code
def yX6_begin : MethodName := ⟨RX6, "begin", "(II)V"⟩
abbrev cX6_isMissing : ByteArray := prog_8_method_3_code
def yX6_isMissing : MethodName := ⟨RX6, "isMissing", "()Z"⟩
abbrev cX6_holds : ByteArray := prog_8_method_4_code
def yX6_holds : MethodName := ⟨RX6, "holds", "(II)Z"⟩
abbrev cX6_write : ByteArray := prog_8_method_5_code
def yX6_write : MethodName := ⟨RX6, "write", "(II)V"⟩
def RX7 : String := "AshLoans$State"
def TX7 : u_T := fun k => match k with
  | 0 => ("AshLoans$State", "county", "LAshLoans$County;", true)
  | 1 => ("AshLoans$State", "laws", "[LAshLoans$Law;", true)
  | 2 => ("AshLoans$State", "tape", "[I", true)
  | 3 => ("AshLoans$State", "waiting", "[I", true)
  | 4 => ("AshLoans$State", "tapeCount", "I", false)
  | 5 => ("AshLoans$State", "waitingCount", "I", false)
  | _ => ("AshLoans$State", "z", "I", false)
def tyX7 : Nat → FieldType := fun k => match k with
  | 0 => .object "AshLoans$County"
  | 1 => .array (.object "AshLoans$Law")
  | 2 => .array .int
  | 3 => .array .int
  | 4 => .int
  | 5 => .int
  | _ => .int
abbrev wsX70 : List Cond := u_ws RX7 TX7 7
theorem nmX7 : ∀ a, a < 7 → ∀ b, b < 7 → a ≠ b → (TX7 a).2.1 ≠ (TX7 b).2.1 := by decide +kernel
theorem tyX7_ok : ∀ k, k < 7 → parseFieldDescriptor (TX7 k).2.2.1 = some (tyX7 k) := by decide +kernel
abbrev cX7_init : ByteArray := prog_9_method_1_code
def yX7_init : MethodName := ⟨RX7, "<init>", "()V"⟩
abbrev cX7_copy : ByteArray := prog_9_method_2_code
def yX7_copy : MethodName := ⟨RX7, "copy", "(LAshLoans$State;)V"⟩
def RX8 : String := "AshLoans$Voices"
def TX8 : u_T := fun k => match k with
  | 0 => ("AshLoans$Voices", "bodies", "[I", true)
  | 1 => ("AshLoans$Voices", "traced", "I", false)
  | 2 => ("AshLoans$Voices", "kind", "I", false)
  | 3 => ("AshLoans$Voices", "n", "I", false)
  | _ => ("AshLoans$Voices", "m", "I", false)
def tyX8 : Nat → FieldType := fun k => match k with
  | 0 => .array .int
  | 1 => .int
  | 2 => .int
  | 3 => .int
  | _ => .int
abbrev wsX80 : List Cond := u_ws RX8 TX8 5
theorem nmX8 : ∀ a, a < 5 → ∀ b, b < 5 → a ≠ b → (TX8 a).2.1 ≠ (TX8 b).2.1 := by decide +kernel
theorem tyX8_ok : ∀ k, k < 5 → parseFieldDescriptor (TX8 k).2.2.1 = some (tyX8 k) := by decide +kernel
abbrev cX8_init : ByteArray := prog_10_method_1_code
def yX8_init : MethodName := ⟨RX8, "<init>", "()V"⟩
abbrev cX8_speak : ByteArray := prog_10_method_2_code
def yX8_speak : MethodName := ⟨RX8, "speak", "(LAshLoans$Ash;III)I"⟩
abbrev cX8_own : ByteArray := prog_10_method_3_code
def yX8_own : MethodName := ⟨RX8, "own", "(III)I"⟩
abbrev cX8_above : ByteArray := prog_10_method_4_code
def yX8_above : MethodName := ⟨RX8, "above", "(IIII)I"⟩
abbrev cX8_from : ByteArray := prog_10_method_5_code
def yX8_from : MethodName := ⟨RX8, "from", "(IIII)I"⟩
abbrev cX8_speakBody : ByteArray := prog_10_method_6_code
def yX8_speakBody : MethodName := ⟨RX8, "speakBody", "(III)I"⟩
abbrev cX8_note : ByteArray := prog_10_method_7_code
def yX8_note : MethodName := ⟨RX8, "note", "(I)V"⟩
def RX9 : String := "AshLoans"
def TX9 : u_T := fun k => match k with
  | 0 => ("AshLoans", "now", "LAshLoans$State;", true)
  | 1 => ("AshLoans", "kept", "LAshLoans$State;", true)
  | 2 => ("AshLoans", "thought", "LAshLoans$County;", true)
  | 3 => ("AshLoans", "reader", "LAshLoans$Reader;", true)
  | 4 => ("AshLoans", "voices", "LAshLoans$Voices;", true)
  | 5 => ("AshLoans", "sheets", "[LAshLoans$Sheet;", true)
  | 6 => ("AshLoans", "errors", "[I", true)
  | 7 => ("AshLoans", "shades", "[I", true)
  | 8 => ("AshLoans", "limits", "[I", true)
  | _ => ("AshLoans", "images", "I", false)
def tyX9 : Nat → FieldType := fun k => match k with
  | 0 => .object "AshLoans$State"
  | 1 => .object "AshLoans$State"
  | 2 => .object "AshLoans$County"
  | 3 => .object "AshLoans$Reader"
  | 4 => .object "AshLoans$Voices"
  | 5 => .array (.object "AshLoans$Sheet")
  | 6 => .array .int
  | 7 => .array .int
  | 8 => .array .int
  | _ => .int
abbrev wsX90 : List Cond := u_ws RX9 TX9 10
theorem nmX9 : ∀ a, a < 10 → ∀ b, b < 10 → a ≠ b → (TX9 a).2.1 ≠ (TX9 b).2.1 := by decide +kernel
theorem tyX9_ok : ∀ k, k < 10 → parseFieldDescriptor (TX9 k).2.2.1 = some (tyX9 k) := by decide +kernel
abbrev cX9_init : ByteArray := prog_1_method_1_code
def yX9_init : MethodName := ⟨RX9, "<init>", "()V"⟩
abbrev cX9_ash : ByteArray := prog_1_method_2_code
def yX9_ash : MethodName := ⟨RX9, "ash", "(I)I"⟩
abbrev cX9_ofAsh : ByteArray := prog_1_method_3_code
def yX9_ofAsh : MethodName := ⟨RX9, "ofAsh", "(II)I"⟩
abbrev cX9_hedge : ByteArray := prog_1_method_4_code
def yX9_hedge : MethodName := ⟨RX9, "hedge", "(III)I"⟩
abbrev cX9_become : ByteArray := prog_1_method_5_code
def yX9_become : MethodName := ⟨RX9, "become", "(II)I"⟩
abbrev cX9_as : ByteArray := prog_1_method_6_code
def yX9_as : MethodName := ⟨RX9, "as", "(II)I"⟩
abbrev cX9_potter : ByteArray := prog_1_method_7_code
def yX9_potter : MethodName := ⟨RX9, "potter", "()I"⟩
abbrev cX9_ofPotter : ByteArray := prog_1_method_8_code
def yX9_ofPotter : MethodName := ⟨RX9, "ofPotter", "(II)I"⟩
abbrev cX9_store : ByteArray := prog_1_method_9_code
def yX9_store : MethodName := ⟨RX9, "store", "(III)I"⟩
abbrev cX9_stored : ByteArray := prog_1_method_10_code
def yX9_stored : MethodName := ⟨RX9, "stored", "(II)I"⟩
abbrev cX9_feed : ByteArray := prog_1_method_11_code
def yX9_feed : MethodName := ⟨RX9, "feed", "(JI)I"⟩
abbrev cX9_text : ByteArray := prog_1_method_12_code
def yX9_text : MethodName := ⟨RX9, "text", "(I)I"⟩
abbrev cX9_law : ByteArray := prog_1_method_13_code
def yX9_law : MethodName := ⟨RX9, "law", "(IIII)I"⟩
abbrev cX9_lend : ByteArray := prog_1_method_14_code
def yX9_lend : MethodName := ⟨RX9, "lend", "(IIIII)I"⟩
abbrev cX9_ofLoan : ByteArray := prog_1_method_15_code
def yX9_ofLoan : MethodName := ⟨RX9, "ofLoan", "(II)I"⟩
abbrev cX9_back : ByteArray := prog_1_method_16_code
def yX9_back : MethodName := ⟨RX9, "back", "(I)I"⟩
abbrev cX9_fire : ByteArray := prog_1_method_17_code
def yX9_fire : MethodName := ⟨RX9, "fire", "(III)I"⟩
abbrev cX9_days : ByteArray := prog_1_method_18_code
def yX9_days : MethodName := ⟨RX9, "days", "(I)I"⟩
abbrev cX9_loose : ByteArray := prog_1_method_19_code
def yX9_loose : MethodName := ⟨RX9, "loose", "(I)I"⟩
abbrev cX9_colour : ByteArray := prog_1_method_20_code
def yX9_colour : MethodName := ⟨RX9, "colour", "(II)I"⟩
abbrev cX9_then : ByteArray := prog_1_method_21_code
def yX9_then : MethodName := ⟨RX9, "then", "(III)I"⟩
abbrev cX9_breaks : ByteArray := prog_1_method_22_code
def yX9_breaks : MethodName := ⟨RX9, "breaks", "(I)I"⟩
abbrev cX9_recipe : ByteArray := prog_1_method_23_code
def yX9_recipe : MethodName := ⟨RX9, "recipe", "(III)I"⟩
abbrev cX9_heats : ByteArray := prog_1_method_24_code
def yX9_heats : MethodName := ⟨RX9, "heats", "(II)I"⟩
abbrev cX9_burnt : ByteArray := prog_1_method_25_code
def yX9_burnt : MethodName := ⟨RX9, "burnt", "(I)I"⟩
abbrev cX9_round : ByteArray := prog_1_method_26_code
def yX9_round : MethodName := ⟨RX9, "round", "()I"⟩
abbrev cX9_lender : ByteArray := prog_1_method_27_code
def yX9_lender : MethodName := ⟨RX9, "lender", "(IIII)I"⟩
abbrev cX9_odds : ByteArray := prog_1_method_28_code
def yX9_odds : MethodName := ⟨RX9, "odds", "(III)I"⟩
abbrev cX9_seed : ByteArray := prog_1_method_29_code
def yX9_seed : MethodName := ⟨RX9, "seed", "(I)I"⟩
abbrev cX9_voice : ByteArray := prog_1_method_30_code
def yX9_voice : MethodName := ⟨RX9, "voice", "(III)I"⟩
abbrev cX9_trace : ByteArray := prog_1_method_31_code
def yX9_trace : MethodName := ⟨RX9, "trace", "(I)I"⟩
abbrev cX9_sheet : ByteArray := prog_1_method_32_code
def yX9_sheet : MethodName := ⟨RX9, "sheet", "(III)I"⟩
abbrev cX9_put : ByteArray := prog_1_method_33_code
def yX9_put : MethodName := ⟨RX9, "put", "(III)I"⟩
abbrev cX9_move : ByteArray := prog_1_method_34_code
def yX9_move : MethodName := ⟨RX9, "move", "(IIIII)I"⟩
abbrev cX9_hedges : ByteArray := prog_1_method_35_code
def yX9_hedges : MethodName := ⟨RX9, "hedges", "(I)I"⟩
abbrev cX9_judge : ByteArray := prog_1_method_36_code
def yX9_judge : MethodName := ⟨RX9, "judge", "(I)I"⟩
abbrev cX9_image : ByteArray := prog_1_method_37_code
def yX9_image : MethodName := ⟨RX9, "image", "()I"⟩
abbrev cX9_restore : ByteArray := prog_1_method_38_code
def yX9_restore : MethodName := ⟨RX9, "restore", "()I"⟩
abbrev cX9_tell : ByteArray := prog_1_method_39_code
def yX9_tell : MethodName := ⟨RX9, "tell", "(I)I"⟩
abbrev cX9_check : ByteArray := prog_1_method_40_code
def yX9_check : MethodName := ⟨RX9, "check", "()I"⟩
abbrev cX9_count : ByteArray := prog_1_method_41_code
def yX9_count : MethodName := ⟨RX9, "count", "(I)I"⟩
abbrev cX9_told : ByteArray := prog_1_method_42_code
def yX9_told : MethodName := ⟨RX9, "told", "(I)I"⟩
abbrev cX9_fail : ByteArray := prog_1_method_43_code
def yX9_fail : MethodName := ⟨RX9, "fail", "(I)I"⟩
abbrev cX9_within : ByteArray := prog_1_method_44_code
def yX9_within : MethodName := ⟨RX9, "within", "(III)Z"⟩
abbrev cX9_held : ByteArray := prog_1_method_45_code
def yX9_held : MethodName := ⟨RX9, "held", "(II)I"⟩
abbrev cX9_isKindAndNumber : ByteArray := prog_1_method_46_code
def yX9_isKindAndNumber : MethodName := ⟨RX9, "isKindAndNumber", "(I)Z"⟩
abbrev cX9_isUse : ByteArray := prog_1_method_47_code
def yX9_isUse : MethodName := ⟨RX9, "isUse", "(I)Z"⟩
abbrev cX9_isHeat : ByteArray := prog_1_method_48_code
def yX9_isHeat : MethodName := ⟨RX9, "isHeat", "(I)Z"⟩
abbrev cX9_isColour : ByteArray := prog_1_method_49_code
def yX9_isColour : MethodName := ⟨RX9, "isColour", "(I)Z"⟩
abbrev cX9_isSheet : ByteArray := prog_1_method_50_code
def yX9_isSheet : MethodName := ⟨RX9, "isSheet", "(I)Z"⟩
abbrev cX9_isMix : ByteArray := prog_1_method_51_code
def yX9_isMix : MethodName := ⟨RX9, "isMix", "(I)Z"⟩
abbrev cX9_isUnder : ByteArray := prog_1_method_52_code
def yX9_isUnder : MethodName := ⟨RX9, "isUnder", "(II)Z"⟩
abbrev cX9_commonDivisor : ByteArray := prog_1_method_53_code
def yX9_commonDivisor : MethodName := ⟨RX9, "commonDivisor", "(II)I"⟩
abbrev cX9_draw : ByteArray := prog_1_method_54_code
def yX9_draw : MethodName := ⟨RX9, "draw", "()I"⟩
abbrev cX9_drawHedge : ByteArray := prog_1_method_55_code
def yX9_drawHedge : MethodName := ⟨RX9, "drawHedge", "()V"⟩
abbrev cX9_colourOfAsh : ByteArray := prog_1_method_56_code
def yX9_colourOfAsh : MethodName := ⟨RX9, "colourOfAsh", "(LAshLoans$Ash;I)I"⟩
abbrev cX9_restByTen : ByteArray := prog_1_method_57_code
def yX9_restByTen : MethodName := ⟨RX9, "restByTen", "(I)I"⟩
abbrev cX9_colourOfMix : ByteArray := prog_1_method_58_code
def yX9_colourOfMix : MethodName := ⟨RX9, "colourOfMix", "(II)I"⟩
abbrev cX9_heatsGiving : ByteArray := prog_1_method_59_code
def yX9_heatsGiving : MethodName := ⟨RX9, "heatsGiving", "(II)I"⟩
abbrev cX9_canHaveGiven : ByteArray := prog_1_method_60_code
def yX9_canHaveGiven : MethodName := ⟨RX9, "canHaveGiven", "(LAshLoans$Ash;LAshLoans$Sheet;)Z"⟩
abbrev cX9_prepareRecipes : ByteArray := prog_1_method_61_code
def yX9_prepareRecipes : MethodName := ⟨RX9, "prepareRecipes", "(LAshLoans$Potter;I)V"⟩
abbrev cX9_fewestFor : ByteArray := prog_1_method_62_code
def yX9_fewestFor : MethodName := ⟨RX9, "fewestFor", "(I)I"⟩
abbrev cX9_bushelsOfChoice : ByteArray := prog_1_method_63_code
def yX9_bushelsOfChoice : MethodName := ⟨RX9, "bushelsOfChoice", "(I)I"⟩
abbrev cX9_colourOfChoice : ByteArray := prog_1_method_64_code
def yX9_colourOfChoice : MethodName := ⟨RX9, "colourOfChoice", "(I)I"⟩
abbrev cX9_mixOfChoice : ByteArray := prog_1_method_65_code
def yX9_mixOfChoice : MethodName := ⟨RX9, "mixOfChoice", "(I)I"⟩
def RX10 : String := "AshLoansModel"
def TX10 : u_T := fun k => match k with
  | 0 => ("AshLoansModel", "now", "[I", true)
  | 1 => ("AshLoansModel", "kept", "[I", true)
  | 2 => ("AshLoansModel", "aside", "[I", true)
  | 3 => ("AshLoansModel", "images", "I", false)
  | 4 => ("AshLoansModel", "errors", "[I", true)
  | 5 => ("AshLoansModel", "NAMED", "[Ljava/lang/String;", true)
  | 6 => ("AshLoansModel", "at", "I", false)
  | 7 => ("AshLoansModel", "open", "I", false)
  | 8 => ("AshLoansModel", "use", "I", false)
  | 9 => ("AshLoansModel", "isWrong", "Z", false)
  | 10 => ("AshLoansModel", "code", "[I", true)
  | 11 => ("AshLoansModel", "coded", "I", false)
  | 12 => ("AshLoansModel", "named", "[I", true)
  | 13 => ("AshLoansModel", "pile", "[I", true)
  | 14 => ("AshLoansModel", "trace", "[I", true)
  | 15 => ("AshLoansModel", "traced", "I", false)
  | 16 => ("AshLoansModel", "kind", "I", false)
  | 17 => ("AshLoansModel", "number", "I", false)
  | 18 => ("AshLoansModel", "told", "I", false)
  | 19 => ("AshLoansModel", "widths", "[I", true)
  | 20 => ("AshLoansModel", "sizes", "[I", true)
  | 21 => ("AshLoansModel", "numbers", "[I", true)
  | _ => ("AshLoansModel", "carried", "[I", true)
def tyX10 : Nat → FieldType := fun k => match k with
  | 0 => .array .int
  | 1 => .array .int
  | 2 => .array .int
  | 3 => .int
  | 4 => .array .int
  | 5 => .array (.object "java/lang/String")
  | 6 => .int
  | 7 => .int
  | 8 => .int
  | 9 => .boolean
  | 10 => .array .int
  | 11 => .int
  | 12 => .array .int
  | 13 => .array .int
  | 14 => .array .int
  | 15 => .int
  | 16 => .int
  | 17 => .int
  | 18 => .int
  | 19 => .array .int
  | 20 => .array .int
  | 21 => .array .int
  | _ => .array .int
abbrev wsX100 : List Cond := u_ws RX10 TX10 23
theorem nmX10 : ∀ a, a < 23 → ∀ b, b < 23 → a ≠ b → (TX10 a).2.1 ≠ (TX10 b).2.1 := by decide +kernel
theorem tyX10_ok : ∀ k, k < 23 → parseFieldDescriptor (TX10 k).2.2.1 = some (tyX10 k) := by decide +kernel
abbrev cX10_init : ByteArray := prog_12_method_1_code
def yX10_init : MethodName := ⟨RX10, "<init>", "()V"⟩
abbrev cX10_finding : ByteArray := prog_12_method_2_code
def yX10_finding : MethodName := ⟨RX10, "finding", "(I)I"⟩
abbrev cX10_within : ByteArray := prog_12_method_3_code
def yX10_within : MethodName := ⟨RX10, "within", "(III)Z"⟩
abbrev cX10_held : ByteArray := prog_12_method_4_code
def yX10_held : MethodName := ⟨RX10, "held", "(III)I"⟩
abbrev cX10_copy : ByteArray := prog_12_method_5_code
def yX10_copy : MethodName := ⟨RX10, "copy", "([I[I)V"⟩
abbrev cX10_turn : ByteArray := prog_12_method_6_code
def yX10_turn : MethodName := ⟨RX10, "turn", "(II)I"⟩
abbrev cX10_putBack : ByteArray := prog_12_method_7_code
def yX10_putBack : MethodName := ⟨RX10, "putBack", "(I)I"⟩
abbrev cX10_feed : ByteArray := prog_12_method_8_code
def yX10_feed : MethodName := ⟨RX10, "feed", "(JI)I"⟩
abbrev cX10_here : ByteArray := prog_12_method_9_code
def yX10_here : MethodName := ⟨RX10, "here", "()I"⟩
abbrev cX10_takes : ByteArray := prog_12_method_10_code
def yX10_takes : MethodName := ⟨RX10, "takes", "(I)Z"⟩
abbrev cX10_codes : ByteArray := prog_12_method_11_code
def yX10_codes : MethodName := ⟨RX10, "codes", "(I)V"⟩
abbrev cX10_either : ByteArray := prog_12_method_12_code
def yX10_either : MethodName := ⟨RX10, "either", "()V"⟩
abbrev cX10_both : ByteArray := prog_12_method_13_code
def yX10_both : MethodName := ⟨RX10, "both", "()V"⟩
abbrev cX10_compared : ByteArray := prog_12_method_14_code
def yX10_compared : MethodName := ⟨RX10, "compared", "()V"⟩
abbrev cX10_sum : ByteArray := prog_12_method_15_code
def yX10_sum : MethodName := ⟨RX10, "sum", "()V"⟩
abbrev cX10_product : ByteArray := prog_12_method_16_code
def yX10_product : MethodName := ⟨RX10, "product", "()V"⟩
abbrev cX10_nameOf : ByteArray := prog_12_method_17_code
def yX10_nameOf : MethodName := ⟨RX10, "nameOf", "(I)I"⟩
abbrev cX10_one : ByteArray := prog_12_method_18_code
def yX10_one : MethodName := ⟨RX10, "one", "()V"⟩
abbrev cX10_text : ByteArray := prog_12_method_19_code
def yX10_text : MethodName := ⟨RX10, "text", "(I)I"⟩
abbrev cX10_done : ByteArray := prog_12_method_20_code
def yX10_done : MethodName := ⟨RX10, "done", "(III)I"⟩
abbrev cX10_worked : ByteArray := prog_12_method_21_code
def yX10_worked : MethodName := ⟨RX10, "worked", "(I)I"⟩
abbrev cX10_hasText : ByteArray := prog_12_method_22_code
def yX10_hasText : MethodName := ⟨RX10, "hasText", "(I)Z"⟩
abbrev cX10_given : ByteArray := prog_12_method_23_code
def yX10_given : MethodName := ⟨RX10, "given", "(IIII)I"⟩
abbrev cX10_law : ByteArray := prog_12_method_24_code
def yX10_law : MethodName := ⟨RX10, "law", "(IIII)I"⟩
abbrev cX10_isAsh : ByteArray := prog_12_method_25_code
def yX10_isAsh : MethodName := ⟨RX10, "isAsh", "(I)Z"⟩
abbrev cX10_isPotter : ByteArray := prog_12_method_26_code
def yX10_isPotter : MethodName := ⟨RX10, "isPotter", "(I)Z"⟩
abbrev cX10_isLoan : ByteArray := prog_12_method_27_code
def yX10_isLoan : MethodName := ⟨RX10, "isLoan", "(I)Z"⟩
abbrev cX10_isKindM : ByteArray := prog_12_method_28_code
def yX10_isKindM : MethodName := ⟨RX10, "isKindM", "(I)Z"⟩
abbrev cX10_isDigit : ByteArray := prog_12_method_29_code
def yX10_isDigit : MethodName := ⟨RX10, "isDigit", "(I)Z"⟩
abbrev cX10_ashAt : ByteArray := prog_12_method_30_code
def yX10_ashAt : MethodName := ⟨RX10, "ashAt", "(II)I"⟩
abbrev cX10_ashIs : ByteArray := prog_12_method_31_code
def yX10_ashIs : MethodName := ⟨RX10, "ashIs", "(II)I"⟩
abbrev cX10_potterAt : ByteArray := prog_12_method_32_code
def yX10_potterAt : MethodName := ⟨RX10, "potterAt", "(II)I"⟩
abbrev cX10_storeAt : ByteArray := prog_12_method_33_code
def yX10_storeAt : MethodName := ⟨RX10, "storeAt", "(II)I"⟩
abbrev cX10_loanAt : ByteArray := prog_12_method_34_code
def yX10_loanAt : MethodName := ⟨RX10, "loanAt", "(II)I"⟩
abbrev cX10_loanIs : ByteArray := prog_12_method_35_code
def yX10_loanIs : MethodName := ⟨RX10, "loanIs", "(II)I"⟩
abbrev cX10_ashComes : ByteArray := prog_12_method_36_code
def yX10_ashComes : MethodName := ⟨RX10, "ashComes", "(I)I"⟩
abbrev cX10_ash : ByteArray := prog_12_method_37_code
def yX10_ash : MethodName := ⟨RX10, "ash", "(I)I"⟩
abbrev cX10_allOf : ByteArray := prog_12_method_38_code
def yX10_allOf : MethodName := ⟨RX10, "allOf", "(I)I"⟩
abbrev cX10_ofAsh : ByteArray := prog_12_method_39_code
def yX10_ofAsh : MethodName := ⟨RX10, "ofAsh", "(II)I"⟩
abbrev cX10_hedge : ByteArray := prog_12_method_40_code
def yX10_hedge : MethodName := ⟨RX10, "hedge", "(III)I"⟩
abbrev cX10_become : ByteArray := prog_12_method_41_code
def yX10_become : MethodName := ⟨RX10, "become", "(II)I"⟩
abbrev cX10_above : ByteArray := prog_12_method_42_code
def yX10_above : MethodName := ⟨RX10, "above", "(I)I"⟩
abbrev cX10_isUnder : ByteArray := prog_12_method_43_code
def yX10_isUnder : MethodName := ⟨RX10, "isUnder", "(II)Z"⟩
abbrev cX10_as : ByteArray := prog_12_method_44_code
def yX10_as : MethodName := ⟨RX10, "as", "(II)I"⟩
abbrev cX10_potter : ByteArray := prog_12_method_45_code
def yX10_potter : MethodName := ⟨RX10, "potter", "()I"⟩
abbrev cX10_loansOf : ByteArray := prog_12_method_46_code
def yX10_loansOf : MethodName := ⟨RX10, "loansOf", "(II)I"⟩
abbrev cX10_ofPotter : ByteArray := prog_12_method_47_code
def yX10_ofPotter : MethodName := ⟨RX10, "ofPotter", "(II)I"⟩
abbrev cX10_store : ByteArray := prog_12_method_48_code
def yX10_store : MethodName := ⟨RX10, "store", "(III)I"⟩
abbrev cX10_stored : ByteArray := prog_12_method_49_code
def yX10_stored : MethodName := ⟨RX10, "stored", "(II)I"⟩
abbrev cX10_colourOf : ByteArray := prog_12_method_50_code
def yX10_colourOf : MethodName := ⟨RX10, "colourOf", "(II)I"⟩
abbrev cX10_rest : ByteArray := prog_12_method_51_code
def yX10_rest : MethodName := ⟨RX10, "rest", "(I)I"⟩
abbrev cX10_digit : ByteArray := prog_12_method_52_code
def yX10_digit : MethodName := ⟨RX10, "digit", "(II)I"⟩
abbrev cX10_isMix : ByteArray := prog_12_method_53_code
def yX10_isMix : MethodName := ⟨RX10, "isMix", "(I)Z"⟩
abbrev cX10_isForbidden : ByteArray := prog_12_method_54_code
def yX10_isForbidden : MethodName := ⟨RX10, "isForbidden", "(II)Z"⟩
abbrev cX10_mixColour : ByteArray := prog_12_method_55_code
def yX10_mixColour : MethodName := ⟨RX10, "mixColour", "(II)I"⟩
abbrev cX10_colour : ByteArray := prog_12_method_56_code
def yX10_colour : MethodName := ⟨RX10, "colour", "(II)I"⟩
abbrev cX10_hasAll : ByteArray := prog_12_method_57_code
def yX10_hasAll : MethodName := ⟨RX10, "hasAll", "(II)Z"⟩
abbrev cX10_firesNow : ByteArray := prog_12_method_58_code
def yX10_firesNow : MethodName := ⟨RX10, "firesNow", "(III)I"⟩
abbrev cX10_fire : ByteArray := prog_12_method_59_code
def yX10_fire : MethodName := ⟨RX10, "fire", "(III)I"⟩
abbrev cX10_lendNow : ByteArray := prog_12_method_60_code
def yX10_lendNow : MethodName := ⟨RX10, "lendNow", "(IIIII)I"⟩
abbrev cX10_canLend : ByteArray := prog_12_method_61_code
def yX10_canLend : MethodName := ⟨RX10, "canLend", "(IIII)Z"⟩
abbrev cX10_lend : ByteArray := prog_12_method_62_code
def yX10_lend : MethodName := ⟨RX10, "lend", "(IIIII)I"⟩
abbrev cX10_ofLoan : ByteArray := prog_12_method_63_code
def yX10_ofLoan : MethodName := ⟨RX10, "ofLoan", "(II)I"⟩
abbrev cX10_canGiveBack : ByteArray := prog_12_method_64_code
def yX10_canGiveBack : MethodName := ⟨RX10, "canGiveBack", "(I)Z"⟩
abbrev cX10_goes : ByteArray := prog_12_method_65_code
def yX10_goes : MethodName := ⟨RX10, "goes", "(I)V"⟩
abbrev cX10_givesBack : ByteArray := prog_12_method_66_code
def yX10_givesBack : MethodName := ⟨RX10, "givesBack", "(I)I"⟩
abbrev cX10_back : ByteArray := prog_12_method_67_code
def yX10_back : MethodName := ⟨RX10, "back", "(I)I"⟩
abbrev cX10_breaksOne : ByteArray := prog_12_method_68_code
def yX10_breaksOne : MethodName := ⟨RX10, "breaksOne", "(I)V"⟩
abbrev cX10_day : ByteArray := prog_12_method_69_code
def yX10_day : MethodName := ⟨RX10, "day", "()V"⟩
abbrev cX10_daysGo : ByteArray := prog_12_method_70_code
def yX10_daysGo : MethodName := ⟨RX10, "daysGo", "(I)V"⟩
abbrev cX10_days : ByteArray := prog_12_method_71_code
def yX10_days : MethodName := ⟨RX10, "days", "(I)I"⟩
abbrev cX10_drawn : ByteArray := prog_12_method_72_code
def yX10_drawn : MethodName := ⟨RX10, "drawn", "()I"⟩
abbrev cX10_loose : ByteArray := prog_12_method_73_code
def yX10_loose : MethodName := ⟨RX10, "loose", "(I)I"⟩
abbrev cX10_then : ByteArray := prog_12_method_74_code
def yX10_then : MethodName := ⟨RX10, "then", "(III)I"⟩
abbrev cX10_breaks : ByteArray := prog_12_method_75_code
def yX10_breaks : MethodName := ⟨RX10, "breaks", "(I)I"⟩
abbrev cX10_bushels : ByteArray := prog_12_method_76_code
def yX10_bushels : MethodName := ⟨RX10, "bushels", "(I)I"⟩
abbrev cX10_mixOf : ByteArray := prog_12_method_77_code
def yX10_mixOf : MethodName := ⟨RX10, "mixOf", "(I)I"⟩
abbrev cX10_recipe : ByteArray := prog_12_method_78_code
def yX10_recipe : MethodName := ⟨RX10, "recipe", "(III)I"⟩
abbrev cX10_heatsOf : ByteArray := prog_12_method_79_code
def yX10_heatsOf : MethodName := ⟨RX10, "heatsOf", "(II)I"⟩
abbrev cX10_heats : ByteArray := prog_12_method_80_code
def yX10_heats : MethodName := ⟨RX10, "heats", "(II)I"⟩
abbrev cX10_burnt : ByteArray := prog_12_method_81_code
def yX10_burnt : MethodName := ⟨RX10, "burnt", "(I)I"⟩
abbrev cX10_has : ByteArray := prog_12_method_82_code
def yX10_has : MethodName := ⟨RX10, "has", "(III)I"⟩
abbrev cX10_round : ByteArray := prog_12_method_83_code
def yX10_round : MethodName := ⟨RX10, "round", "()I"⟩
abbrev cX10_brokenAll : ByteArray := prog_12_method_84_code
def yX10_brokenAll : MethodName := ⟨RX10, "brokenAll", "()I"⟩
abbrev cX10_brokenIfLent : ByteArray := prog_12_method_85_code
def yX10_brokenIfLent : MethodName := ⟨RX10, "brokenIfLent", "(IIIII)I"⟩
abbrev cX10_lender : ByteArray := prog_12_method_86_code
def yX10_lender : MethodName := ⟨RX10, "lender", "(IIII)I"⟩
abbrev cX10_odds : ByteArray := prog_12_method_87_code
def yX10_odds : MethodName := ⟨RX10, "odds", "(III)I"⟩
abbrev cX10_seed : ByteArray := prog_12_method_88_code
def yX10_seed : MethodName := ⟨RX10, "seed", "(I)I"⟩
abbrev cX10_ran : ByteArray := prog_12_method_89_code
def yX10_ran : MethodName := ⟨RX10, "ran", "(I)V"⟩
abbrev cX10_burnsOf : ByteArray := prog_12_method_90_code
def yX10_burnsOf : MethodName := ⟨RX10, "burnsOf", "(I)I"⟩
abbrev cX10_meltsOf : ByteArray := prog_12_method_91_code
def yX10_meltsOf : MethodName := ⟨RX10, "meltsOf", "(I)I"⟩
abbrev cX10_runsOf : ByteArray := prog_12_method_92_code
def yX10_runsOf : MethodName := ⟨RX10, "runsOf", "(I)I"⟩
abbrev cX10_plainGlows : ByteArray := prog_12_method_93_code
def yX10_plainGlows : MethodName := ⟨RX10, "plainGlows", "(I)I"⟩
abbrev cX10_glowsOf : ByteArray := prog_12_method_94_code
def yX10_glowsOf : MethodName := ⟨RX10, "glowsOf", "(I)I"⟩
abbrev cX10_voice : ByteArray := prog_12_method_95_code
def yX10_voice : MethodName := ⟨RX10, "voice", "(III)I"⟩
abbrev cX10_trace : ByteArray := prog_12_method_96_code
def yX10_trace : MethodName := ⟨RX10, "trace", "(I)I"⟩
abbrev cX10_isSheet : ByteArray := prog_12_method_97_code
def yX10_isSheet : MethodName := ⟨RX10, "isSheet", "(I)Z"⟩
abbrev cX10_sheet : ByteArray := prog_12_method_98_code
def yX10_sheet : MethodName := ⟨RX10, "sheet", "(III)I"⟩
abbrev cX10_put : ByteArray := prog_12_method_99_code
def yX10_put : MethodName := ⟨RX10, "put", "(III)I"⟩
abbrev cX10_move : ByteArray := prog_12_method_100_code
def yX10_move : MethodName := ⟨RX10, "move", "(IIIII)I"⟩
abbrev cX10_hedges : ByteArray := prog_12_method_101_code
def yX10_hedges : MethodName := ⟨RX10, "hedges", "(I)I"⟩
abbrev cX10_judge : ByteArray := prog_12_method_102_code
def yX10_judge : MethodName := ⟨RX10, "judge", "(I)I"⟩
abbrev cX10_image : ByteArray := prog_12_method_103_code
def yX10_image : MethodName := ⟨RX10, "image", "()I"⟩
abbrev cX10_restore : ByteArray := prog_12_method_104_code
def yX10_restore : MethodName := ⟨RX10, "restore", "()I"⟩
abbrev cX10_tell : ByteArray := prog_12_method_105_code
def yX10_tell : MethodName := ⟨RX10, "tell", "(I)I"⟩
abbrev cX10_check : ByteArray := prog_12_method_106_code
def yX10_check : MethodName := ⟨RX10, "check", "()I"⟩
abbrev cX10_potsAll : ByteArray := prog_12_method_107_code
def yX10_potsAll : MethodName := ⟨RX10, "potsAll", "()I"⟩
abbrev cX10_count : ByteArray := prog_12_method_108_code
def yX10_count : MethodName := ⟨RX10, "count", "(I)I"⟩
abbrev cX10_told : ByteArray := prog_12_method_109_code
def yX10_told : MethodName := ⟨RX10, "told", "(I)I"⟩
def RJ6 : String := "java/lang/Integer"
def TJ6 : u_T := fun k => match k with
  | _ => ("", "", "", false)
def tyJ6 : Nat → FieldType := fun k => match k with
  | _ => .int
abbrev wsJ60 : List Cond := u_ws RJ6 TJ6 0
theorem nmJ6 : ∀ a, a < 0 → ∀ b, b < 0 → a ≠ b → (TJ6 a).2.1 ≠ (TJ6 b).2.1 := by decide +kernel
theorem tyJ6_ok : ∀ k, k < 0 → parseFieldDescriptor (TJ6 k).2.2.1 = some (tyJ6 k) := by decide +kernel
abbrev cJ6_bitCount_0f7a4 : ByteArray := prog_13_method_49_code
def yJ6_bitCount_0f7a4 : MethodName := ⟨RJ6, "bitCount", "(I)I"⟩
def RJ9 : String := "java/lang/Math"
def TJ9 : u_T := fun k => match k with
  | _ => ("", "", "", false)
def tyJ9 : Nat → FieldType := fun k => match k with
  | _ => .int
abbrev wsJ90 : List Cond := u_ws RJ9 TJ9 0
theorem nmJ9 : ∀ a, a < 0 → ∀ b, b < 0 → a ≠ b → (TJ9 a).2.1 ≠ (TJ9 b).2.1 := by decide +kernel
theorem tyJ9_ok : ∀ k, k < 0 → parseFieldDescriptor (TJ9 k).2.2.1 = some (tyJ9 k) := by decide +kernel
abbrev cJ9_max_7cf53 : ByteArray := prog_14_method_65_code
def yJ9_max_7cf53 : MethodName := ⟨RJ9, "max", "(II)I"⟩
abbrev cJ9_min_7cf53 : ByteArray := prog_14_method_69_code
def yJ9_min_7cf53 : MethodName := ⟨RJ9, "min", "(II)I"⟩
def RJ0 : String := "java/lang/String"
def TJ0 : u_T := fun k => match k with
  | _ => ("", "", "", false)
def tyJ0 : Nat → FieldType := fun k => match k with
  | _ => .int
abbrev wsJ00 : List Cond := u_ws RJ0 TJ0 0
theorem nmJ0 : ∀ a, a < 0 → ∀ b, b < 0 → a ≠ b → (TJ0 a).2.1 ≠ (TJ0 b).2.1 := by decide +kernel
theorem tyJ0_ok : ∀ k, k < 0 → parseFieldDescriptor (TJ0 k).2.2.1 = some (tyJ0 k) := by decide +kernel
abbrev cJ0_length_8abf5 : ByteArray := prog_15_method_54_code
def yJ0_length_8abf5 : MethodName := ⟨RJ0, "length", "()I"⟩
abbrev cJ0_charAt_5068e : ByteArray := prog_15_method_56_code
def yJ0_charAt_5068e : MethodName := ⟨RJ0, "charAt", "(I)C"⟩
abbrev cJ0_coder_7d493 : ByteArray := prog_15_method_152_code
def yJ0_coder_7d493 : MethodName := ⟨RJ0, "coder", "()B"⟩
abbrev cJ0_isLatin1_aae02 : ByteArray := prog_15_method_154_code
def yJ0_isLatin1_aae02 : MethodName := ⟨RJ0, "isLatin1", "()Z"⟩
abbrev cJ0_checkIndex_df160 : ByteArray := prog_15_method_155_code
def yJ0_checkIndex_df160 : MethodName := ⟨RJ0, "checkIndex", "(II)V"⟩
def RJ1 : String := "java/lang/StringLatin1"
def TJ1 : u_T := fun k => match k with
  | _ => ("", "", "", false)
def tyJ1 : Nat → FieldType := fun k => match k with
  | _ => .int
abbrev wsJ10 : List Cond := u_ws RJ1 TJ1 0
theorem nmJ1 : ∀ a, a < 0 → ∀ b, b < 0 → a ≠ b → (TJ1 a).2.1 ≠ (TJ1 b).2.1 := by decide +kernel
theorem tyJ1_ok : ∀ k, k < 0 → parseFieldDescriptor (TJ1 k).2.2.1 = some (tyJ1 k) := by decide +kernel
abbrev cJ1_charAt_3b067 : ByteArray := prog_16_method_2_code
def yJ1_charAt_3b067 : MethodName := ⟨RJ1, "charAt", "([BI)C"⟩
def RJ2 : String := "java/lang/StringUTF16"
def TJ2 : u_T := fun k => match k with
  | _ => ("", "", "", false)
def tyJ2 : Nat → FieldType := fun k => match k with
  | _ => .int
abbrev wsJ20 : List Cond := u_ws RJ2 TJ2 0
theorem nmJ2 : ∀ a, a < 0 → ∀ b, b < 0 → a ≠ b → (TJ2 a).2.1 ≠ (TJ2 b).2.1 := by decide +kernel
theorem tyJ2_ok : ∀ k, k < 0 → parseFieldDescriptor (TJ2 k).2.2.1 = some (tyJ2 k) := by decide +kernel
abbrev cJ2_getChar_3b067 : ByteArray := prog_17_method_5_code
def yJ2_getChar_3b067 : MethodName := ⟨RJ2, "getChar", "([BI)C"⟩
abbrev cJ2_length_9d52b : ByteArray := prog_17_method_6_code
def yJ2_length_9d52b : MethodName := ⟨RJ2, "length", "([B)I"⟩
abbrev cJ2_charAt_3b067 : ByteArray := prog_17_method_83_code
def yJ2_charAt_3b067 : MethodName := ⟨RJ2, "charAt", "([BI)C"⟩
abbrev cJ2_checkIndex_2214a : ByteArray := prog_17_method_91_code
def yJ2_checkIndex_2214a : MethodName := ⟨RJ2, "checkIndex", "(I[B)V"⟩
def RJ10 : String := "java/lang/System"
def TJ10 : u_T := fun k => match k with
  | _ => ("", "", "", false)
def tyJ10 : Nat → FieldType := fun k => match k with
  | _ => .int
abbrev wsJ100 : List Cond := u_ws RJ10 TJ10 0
theorem nmJ10 : ∀ a, a < 0 → ∀ b, b < 0 → a ≠ b → (TJ10 a).2.1 ≠ (TJ10 b).2.1 := by decide +kernel
theorem tyJ10_ok : ∀ k, k < 0 → parseFieldDescriptor (TJ10 k).2.2.1 = some (tyJ10 k) := by decide +kernel
def RJ3 : String := "jdk/internal/util/Preconditions"
def TJ3 : u_T := fun k => match k with
  | _ => ("", "", "", false)
def tyJ3 : Nat → FieldType := fun k => match k with
  | _ => .int
abbrev wsJ30 : List Cond := u_ws RJ3 TJ3 0
theorem nmJ3 : ∀ a, a < 0 → ∀ b, b < 0 → a ≠ b → (TJ3 a).2.1 ≠ (TJ3 b).2.1 := by decide +kernel
theorem tyJ3_ok : ∀ k, k < 0 → parseFieldDescriptor (TJ3 k).2.2.1 = some (tyJ3 k) := by decide +kernel
abbrev cJ3_checkIndex_8e157 : ByteArray := prog_19_method_11_code
def yJ3_checkIndex_8e157 : MethodName := ⟨RJ3, "checkIndex", "(IILjava/util/function/BiFunction;)I"⟩
def RL : String := "AshLoansLaw"
abbrev cL_law : ByteArray := code
def yL_law : MethodName := ⟨RL, "law", "([I)Z"⟩
abbrev vwCl : List vw_C := [(RX0, TX0, 4), (RX1, TX1, 7), (RX2, TX2, 4), (RX3, TX3, 5), (RX4, TX4, 3), (RX5, TX5, 6), (RX6, TX6, 3), (RX7, TX7, 7), (RX8, TX8, 5), (RX9, TX9, 10), (RX10, TX10, 23)]
end
section
/-! the world of class and reference: a cell is named by (kind, which, place); M holds its numbers, and which row of a county's loans stands at which place -/
abbrev za_L : Type := Nat × Nat × Nat
abbrev za_M : Type := (za_L → Nat → Int32) × (Nat → Nat → Nat)
/-- kind j: how many of them, and how many places each -/
def za_kinds : List (Nat × Nat × Nat) := [(0,1,1),(1,2,1),(2,3,1),(3,3,5),(4,3,4),(5,3,10),(6,2,2),(7,1,1),(8,1,1),(9,1,4),(10,3,1),(11,3,1),(12,3,1),(13,3,4),(14,2,1),(15,2,1),(16,2,1),(17,2,2),(18,2,2),(19,1,1),(20,1,1),(21,1,1),(22,1,1),(23,1,4),(24,1,1),(25,1,1),(26,1,1),(27,1,1),(28,1,1),(29,1,1),(30,1,1),(31,1,1),(32,1,1),(33,1,1),(34,1,1),(35,1,1),(36,1,1),(37,1,1),(38,1,1),(39,1,1),(40,1,1)]
def za_cells : List za_L := za_kinds.flatMap fun q => (List.range q.2.1).flatMap fun c => (List.range q.2.2).map fun i => (q.1, c, i)
theorem za_mem {j k a b c i : Nat} (h : za_kinds[j]? = some (k, a, b)) (hc : c < a) (hi : i < b) : (k, c, i) ∈ za_cells := by
  unfold za_cells
  refine List.mem_flatMap.mpr ⟨(k, a, b), List.mem_of_getElem? h, List.mem_flatMap.mpr ⟨c, List.mem_range.mpr hc, List.mem_map.mpr ⟨i, List.mem_range.mpr hi, rfl⟩⟩⟩
theorem za_cells_len : za_cells.length = 133 := by decide +kernel
theorem za_inj0 : ∀ i, i < 133 → ∀ j, j < 133 → za_cells[i]? = za_cells[j]? → i = j := by decide +kernel
theorem za_inj {i j : Nat} {x : za_L} (hi : za_cells[i]? = some x) (hj : za_cells[j]? = some x) : i = j := by
  have h1 := (List.getElem?_eq_some_iff.mp hi).1
  have h2 := (List.getElem?_eq_some_iff.mp hj).1
  rw [za_cells_len] at h1 h2
  exact za_inj0 i h1 j h2 (hi.trans hj.symm)
/-- what a cell holds: f its numbers, P its county's rows of loans -/
def za_E0 (g : za_L → Nat) (cy : Nat → ClassId) (f : Nat → Int32) (P : Nat → Nat) (x : za_L) : va_E :=
  match x.1 with
  | 0 => .inr (9, [.ref (g (1, 0, 0)), .ref (g (1, 1, 0)), .ref (g (2, 2, 0)), .ref (g (7, 0, 0)), .ref (g (8, 0, 0)), .ref (g (22, 0, 0)), .ref (g (24, 0, 0)), .ref (g (25, 0, 0)), .ref (g (26, 0, 0)), .int (f 9)])
  | 1 => .inr (7, [.ref (g (2, x.2.1, 0)), .ref (g (14, x.2.1, 0)), .ref (g (15, x.2.1, 0)), .ref (g (16, x.2.1, 0)), .int (f 4), .int (f 5), .int (f 6)])
  | 2 => .inr (1, [.ref (g (10, x.2.1, 0)), .ref (g (11, x.2.1, 0)), .ref (g (12, x.2.1, 0)), .int (f 3), .int (f 4), .int (f 5), .int (f 6)])
  | 3 => .inr (0, [.int (f 0), .int (f 1), .int (f 2), .int (f 3)])
  | 4 => .inr (4, [.ref (g (13, x.2.1, x.2.2)), .int (f 1), .int (f 2)])
  | 5 => .inr (3, [.int (f 0), .int (f 1), .int (f 2), .int (f 3), .int (f 4)])
  | 6 => .inr (2, [.int (f 0), .ref (g (17, x.2.1, x.2.2)), .ref (g (18, x.2.1, x.2.2)), .int (f 3)])
  | 7 => .inr (5, [.ref (g (19, 0, 0)), .ref (g (20, 0, 0)), .int (f 2), .int (f 3), .int (f 4), .int (f 5)])
  | 8 => .inr (8, [.ref (g (21, 0, 0)), .int (f 1), .int (f 2), .int (f 3), .int (f 4)])
  | 9 => .inr (6, [.ref (g (23, 0, x.2.2)), .int (f 1), .int (f 2)])
  | 10 => .inl (cy 1, 5, .inr (.inr (.inr (.inr (fun j => some (g (3, x.2.1, j)))))))
  | 11 => .inl (cy 2, 4, .inr (.inr (.inr (.inr (fun j => some (g (4, x.2.1, j)))))))
  | 12 => .inl (cy 3, 10, .inr (.inr (.inr (.inr (fun j => some (g (5, x.2.1, P j % 10)))))))
  | 13 => .inl (cy 0, 5, .inl f)
  | 14 => .inl (cy 4, 2, .inr (.inr (.inr (.inr (fun j => some (g (6, x.2.1, j)))))))
  | 15 => .inl (cy 0, 50, .inl f)
  | 16 => .inl (cy 0, 20, .inl f)
  | 17 => .inl (cy 0, 50, .inl f)
  | 18 => .inl (cy 0, 50, .inl f)
  | 19 => .inl (cy 0, 50, .inl f)
  | 20 => .inl (cy 0, 50, .inl f)
  | 21 => .inl (cy 0, 40, .inl f)
  | 22 => .inl (cy 5, 4, .inr (.inr (.inr (.inr (fun j => some (g (9, 0, j)))))))
  | 23 => .inl (cy 0, 40, .inl f)
  | 24 => .inl (cy 0, 6, .inl f)
  | 25 => .inl (cy 0, 5, .inl f)
  | 26 => .inl (cy 0, 5, .inl f)
  | 27 => .inr (10, [.ref (g (28, 0, 0)), .ref (g (29, 0, 0)), .ref (g (30, 0, 0)), .int (f 3), .ref (g (31, 0, 0)), .ref (g (32, 0, 0)), .int (f 6), .int (f 7), .int (f 8), .int (f 9), .ref (g (33, 0, 0)), .int (f 11), .ref (g (34, 0, 0)), .ref (g (35, 0, 0)), .ref (g (36, 0, 0)), .int (f 15), .int (f 16), .int (f 17), .int (f 18), .ref (g (37, 0, 0)), .ref (g (38, 0, 0)), .ref (g (39, 0, 0)), .ref (g (40, 0, 0))])
  | 28 => .inl (cy 0, 279, .inl f)
  | 29 => .inl (cy 0, 279, .inl f)
  | 30 => .inl (cy 0, 279, .inl f)
  | 31 => .inl (cy 0, 6, .inl f)
  | 32 => .inl (cy 6, 2, .inr (.inr (.inr (.inr (fun j => some (g (41, 0, j)))))))
  | 33 => .inl (cy 0, 60, .inl f)
  | 34 => .inl (cy 0, 4, .inl f)
  | 35 => .inl (cy 0, 60, .inl f)
  | 36 => .inl (cy 0, 40, .inl f)
  | 37 => .inl (cy 0, 4, .inl f)
  | 38 => .inl (cy 0, 4, .inl f)
  | 39 => .inl (cy 0, 160, .inl f)
  | 40 => .inl (cy 0, 40, .inl f)
  | _ => .inr (0, [])
def za_E (g : za_L → Nat) (cy : Nat → ClassId) (M : za_M) (x : za_L) : va_E := za_E0 g cy (M.1 x) (M.2 x.2.1) x
theorem za_E_0 (g : za_L → Nat) (cy : Nat → ClassId) (M : za_M) (c i : Nat) : za_E g cy M (0, c, i) = .inr (9, [.ref (g (1, 0, 0)), .ref (g (1, 1, 0)), .ref (g (2, 2, 0)), .ref (g (7, 0, 0)), .ref (g (8, 0, 0)), .ref (g (22, 0, 0)), .ref (g (24, 0, 0)), .ref (g (25, 0, 0)), .ref (g (26, 0, 0)), .int (M.1 (0, c, i) 9)]) := rfl
theorem za_E_1 (g : za_L → Nat) (cy : Nat → ClassId) (M : za_M) (c i : Nat) : za_E g cy M (1, c, i) = .inr (7, [.ref (g (2, c, 0)), .ref (g (14, c, 0)), .ref (g (15, c, 0)), .ref (g (16, c, 0)), .int (M.1 (1, c, i) 4), .int (M.1 (1, c, i) 5), .int (M.1 (1, c, i) 6)]) := rfl
theorem za_E_2 (g : za_L → Nat) (cy : Nat → ClassId) (M : za_M) (c i : Nat) : za_E g cy M (2, c, i) = .inr (1, [.ref (g (10, c, 0)), .ref (g (11, c, 0)), .ref (g (12, c, 0)), .int (M.1 (2, c, i) 3), .int (M.1 (2, c, i) 4), .int (M.1 (2, c, i) 5), .int (M.1 (2, c, i) 6)]) := rfl
theorem za_E_3 (g : za_L → Nat) (cy : Nat → ClassId) (M : za_M) (c i : Nat) : za_E g cy M (3, c, i) = .inr (0, [.int (M.1 (3, c, i) 0), .int (M.1 (3, c, i) 1), .int (M.1 (3, c, i) 2), .int (M.1 (3, c, i) 3)]) := rfl
theorem za_E_4 (g : za_L → Nat) (cy : Nat → ClassId) (M : za_M) (c i : Nat) : za_E g cy M (4, c, i) = .inr (4, [.ref (g (13, c, i)), .int (M.1 (4, c, i) 1), .int (M.1 (4, c, i) 2)]) := rfl
theorem za_E_5 (g : za_L → Nat) (cy : Nat → ClassId) (M : za_M) (c i : Nat) : za_E g cy M (5, c, i) = .inr (3, [.int (M.1 (5, c, i) 0), .int (M.1 (5, c, i) 1), .int (M.1 (5, c, i) 2), .int (M.1 (5, c, i) 3), .int (M.1 (5, c, i) 4)]) := rfl
theorem za_E_6 (g : za_L → Nat) (cy : Nat → ClassId) (M : za_M) (c i : Nat) : za_E g cy M (6, c, i) = .inr (2, [.int (M.1 (6, c, i) 0), .ref (g (17, c, i)), .ref (g (18, c, i)), .int (M.1 (6, c, i) 3)]) := rfl
theorem za_E_7 (g : za_L → Nat) (cy : Nat → ClassId) (M : za_M) (c i : Nat) : za_E g cy M (7, c, i) = .inr (5, [.ref (g (19, 0, 0)), .ref (g (20, 0, 0)), .int (M.1 (7, c, i) 2), .int (M.1 (7, c, i) 3), .int (M.1 (7, c, i) 4), .int (M.1 (7, c, i) 5)]) := rfl
theorem za_E_8 (g : za_L → Nat) (cy : Nat → ClassId) (M : za_M) (c i : Nat) : za_E g cy M (8, c, i) = .inr (8, [.ref (g (21, 0, 0)), .int (M.1 (8, c, i) 1), .int (M.1 (8, c, i) 2), .int (M.1 (8, c, i) 3), .int (M.1 (8, c, i) 4)]) := rfl
theorem za_E_9 (g : za_L → Nat) (cy : Nat → ClassId) (M : za_M) (c i : Nat) : za_E g cy M (9, c, i) = .inr (6, [.ref (g (23, 0, i)), .int (M.1 (9, c, i) 1), .int (M.1 (9, c, i) 2)]) := rfl
theorem za_E_10 (g : za_L → Nat) (cy : Nat → ClassId) (M : za_M) (c i : Nat) : za_E g cy M (10, c, i) = .inl (cy 1, 5, .inr (.inr (.inr (.inr (fun j => some (g (3, c, j))))))) := rfl
theorem za_E_11 (g : za_L → Nat) (cy : Nat → ClassId) (M : za_M) (c i : Nat) : za_E g cy M (11, c, i) = .inl (cy 2, 4, .inr (.inr (.inr (.inr (fun j => some (g (4, c, j))))))) := rfl
theorem za_E_12 (g : za_L → Nat) (cy : Nat → ClassId) (M : za_M) (c i : Nat) : za_E g cy M (12, c, i) = .inl (cy 3, 10, .inr (.inr (.inr (.inr (fun j => some (g (5, c, M.2 c j % 10))))))) := rfl
theorem za_E_13 (g : za_L → Nat) (cy : Nat → ClassId) (M : za_M) (c i : Nat) : za_E g cy M (13, c, i) = .inl (cy 0, 5, .inl (M.1 (13, c, i))) := rfl
theorem za_E_14 (g : za_L → Nat) (cy : Nat → ClassId) (M : za_M) (c i : Nat) : za_E g cy M (14, c, i) = .inl (cy 4, 2, .inr (.inr (.inr (.inr (fun j => some (g (6, c, j))))))) := rfl
theorem za_E_15 (g : za_L → Nat) (cy : Nat → ClassId) (M : za_M) (c i : Nat) : za_E g cy M (15, c, i) = .inl (cy 0, 50, .inl (M.1 (15, c, i))) := rfl
theorem za_E_16 (g : za_L → Nat) (cy : Nat → ClassId) (M : za_M) (c i : Nat) : za_E g cy M (16, c, i) = .inl (cy 0, 20, .inl (M.1 (16, c, i))) := rfl
theorem za_E_17 (g : za_L → Nat) (cy : Nat → ClassId) (M : za_M) (c i : Nat) : za_E g cy M (17, c, i) = .inl (cy 0, 50, .inl (M.1 (17, c, i))) := rfl
theorem za_E_18 (g : za_L → Nat) (cy : Nat → ClassId) (M : za_M) (c i : Nat) : za_E g cy M (18, c, i) = .inl (cy 0, 50, .inl (M.1 (18, c, i))) := rfl
theorem za_E_19 (g : za_L → Nat) (cy : Nat → ClassId) (M : za_M) (c i : Nat) : za_E g cy M (19, c, i) = .inl (cy 0, 50, .inl (M.1 (19, c, i))) := rfl
theorem za_E_20 (g : za_L → Nat) (cy : Nat → ClassId) (M : za_M) (c i : Nat) : za_E g cy M (20, c, i) = .inl (cy 0, 50, .inl (M.1 (20, c, i))) := rfl
theorem za_E_21 (g : za_L → Nat) (cy : Nat → ClassId) (M : za_M) (c i : Nat) : za_E g cy M (21, c, i) = .inl (cy 0, 40, .inl (M.1 (21, c, i))) := rfl
theorem za_E_22 (g : za_L → Nat) (cy : Nat → ClassId) (M : za_M) (c i : Nat) : za_E g cy M (22, c, i) = .inl (cy 5, 4, .inr (.inr (.inr (.inr (fun j => some (g (9, 0, j))))))) := rfl
theorem za_E_23 (g : za_L → Nat) (cy : Nat → ClassId) (M : za_M) (c i : Nat) : za_E g cy M (23, c, i) = .inl (cy 0, 40, .inl (M.1 (23, c, i))) := rfl
theorem za_E_24 (g : za_L → Nat) (cy : Nat → ClassId) (M : za_M) (c i : Nat) : za_E g cy M (24, c, i) = .inl (cy 0, 6, .inl (M.1 (24, c, i))) := rfl
theorem za_E_25 (g : za_L → Nat) (cy : Nat → ClassId) (M : za_M) (c i : Nat) : za_E g cy M (25, c, i) = .inl (cy 0, 5, .inl (M.1 (25, c, i))) := rfl
theorem za_E_26 (g : za_L → Nat) (cy : Nat → ClassId) (M : za_M) (c i : Nat) : za_E g cy M (26, c, i) = .inl (cy 0, 5, .inl (M.1 (26, c, i))) := rfl
theorem za_E_27 (g : za_L → Nat) (cy : Nat → ClassId) (M : za_M) (c i : Nat) : za_E g cy M (27, c, i) = .inr (10, [.ref (g (28, 0, 0)), .ref (g (29, 0, 0)), .ref (g (30, 0, 0)), .int (M.1 (27, c, i) 3), .ref (g (31, 0, 0)), .ref (g (32, 0, 0)), .int (M.1 (27, c, i) 6), .int (M.1 (27, c, i) 7), .int (M.1 (27, c, i) 8), .int (M.1 (27, c, i) 9), .ref (g (33, 0, 0)), .int (M.1 (27, c, i) 11), .ref (g (34, 0, 0)), .ref (g (35, 0, 0)), .ref (g (36, 0, 0)), .int (M.1 (27, c, i) 15), .int (M.1 (27, c, i) 16), .int (M.1 (27, c, i) 17), .int (M.1 (27, c, i) 18), .ref (g (37, 0, 0)), .ref (g (38, 0, 0)), .ref (g (39, 0, 0)), .ref (g (40, 0, 0))]) := rfl
theorem za_E_28 (g : za_L → Nat) (cy : Nat → ClassId) (M : za_M) (c i : Nat) : za_E g cy M (28, c, i) = .inl (cy 0, 279, .inl (M.1 (28, c, i))) := rfl
theorem za_E_29 (g : za_L → Nat) (cy : Nat → ClassId) (M : za_M) (c i : Nat) : za_E g cy M (29, c, i) = .inl (cy 0, 279, .inl (M.1 (29, c, i))) := rfl
theorem za_E_30 (g : za_L → Nat) (cy : Nat → ClassId) (M : za_M) (c i : Nat) : za_E g cy M (30, c, i) = .inl (cy 0, 279, .inl (M.1 (30, c, i))) := rfl
theorem za_E_31 (g : za_L → Nat) (cy : Nat → ClassId) (M : za_M) (c i : Nat) : za_E g cy M (31, c, i) = .inl (cy 0, 6, .inl (M.1 (31, c, i))) := rfl
theorem za_E_32 (g : za_L → Nat) (cy : Nat → ClassId) (M : za_M) (c i : Nat) : za_E g cy M (32, c, i) = .inl (cy 6, 2, .inr (.inr (.inr (.inr (fun j => some (g (41, 0, j))))))) := rfl
theorem za_E_33 (g : za_L → Nat) (cy : Nat → ClassId) (M : za_M) (c i : Nat) : za_E g cy M (33, c, i) = .inl (cy 0, 60, .inl (M.1 (33, c, i))) := rfl
theorem za_E_34 (g : za_L → Nat) (cy : Nat → ClassId) (M : za_M) (c i : Nat) : za_E g cy M (34, c, i) = .inl (cy 0, 4, .inl (M.1 (34, c, i))) := rfl
theorem za_E_35 (g : za_L → Nat) (cy : Nat → ClassId) (M : za_M) (c i : Nat) : za_E g cy M (35, c, i) = .inl (cy 0, 60, .inl (M.1 (35, c, i))) := rfl
theorem za_E_36 (g : za_L → Nat) (cy : Nat → ClassId) (M : za_M) (c i : Nat) : za_E g cy M (36, c, i) = .inl (cy 0, 40, .inl (M.1 (36, c, i))) := rfl
theorem za_E_37 (g : za_L → Nat) (cy : Nat → ClassId) (M : za_M) (c i : Nat) : za_E g cy M (37, c, i) = .inl (cy 0, 4, .inl (M.1 (37, c, i))) := rfl
theorem za_E_38 (g : za_L → Nat) (cy : Nat → ClassId) (M : za_M) (c i : Nat) : za_E g cy M (38, c, i) = .inl (cy 0, 4, .inl (M.1 (38, c, i))) := rfl
theorem za_E_39 (g : za_L → Nat) (cy : Nat → ClassId) (M : za_M) (c i : Nat) : za_E g cy M (39, c, i) = .inl (cy 0, 160, .inl (M.1 (39, c, i))) := rfl
theorem za_E_40 (g : za_L → Nat) (cy : Nat → ClassId) (M : za_M) (c i : Nat) : za_E g cy M (40, c, i) = .inl (cy 0, 40, .inl (M.1 (40, c, i))) := rfl
/-- a number put, a row of loans put -/
def za_up (M : za_M) (x : za_L) (k : Nat) (v : Int32) : za_M := (fun y j => if y = x ∧ j = k then v else M.1 y j, M.2)
def za_uq (M : za_M) (c k v : Nat) : za_M := (M.1, fun d j => if d = c ∧ j = k then v else M.2 d j)
/-- a whole row of numbers put -/
def za_uf (M : za_M) (x : za_L) (f : Nat → Int32) : za_M := (fun y j => if y = x then f j else M.1 y j, M.2)
theorem za_up_row (M : za_M) (x : za_L) (k : Nat) (v : Int32) : (za_up M x k v).1 x = upd (M.1 x) k v := by
  funext j
  simp [za_up, upd]
theorem za_up_oth (M : za_M) {x y : za_L} (k : Nat) (v : Int32) (h : y ≠ x) : (za_up M x k v).1 y = M.1 y := by
  funext j
  simp [za_up, h]
theorem za_uf_row (M : za_M) (x : za_L) (f : Nat → Int32) : (za_uf M x f).1 x = f := by
  funext j
  simp [za_uf]
theorem za_uf_oth (M : za_M) {x y : za_L} (f : Nat → Int32) (h : y ≠ x) : (za_uf M x f).1 y = M.1 y := by
  funext j
  simp [za_uf, h]
theorem za_E_up (g : za_L → Nat) (cy : Nat → ClassId) (M : za_M) {x y : za_L} (k : Nat) (v : Int32) (h : y ≠ x) : za_E g cy (za_up M x k v) y = za_E g cy M y := by
  unfold za_E
  rw [za_up_oth M k v h]
  rfl
theorem za_E_uf (g : za_L → Nat) (cy : Nat → ClassId) (M : za_M) {x y : za_L} (f : Nat → Int32) (h : y ≠ x) : za_E g cy (za_uf M x f) y = za_E g cy M y := by
  unfold za_E
  rw [za_uf_oth M f h]
  rfl
set_option maxHeartbeats 2000000 in
theorem za_E_P (g : za_L → Nat) (cy : Nat → ClassId) (f : Nat → Int32) (P P' : Nat → Nat) (x : za_L) (h : x.1 ≠ 12) : za_E0 g cy f P x = za_E0 g cy f P' x := by
  unfold za_E0
  split <;> first | rfl | (exact absurd (by assumption) h)
theorem za_uq_oth (M : za_M) {c d : Nat} (k v : Nat) (h : d ≠ c) : (za_uq M c k v).2 d = M.2 d := by
  funext j
  simp [za_uq, h]
theorem za_E_uq (g : za_L → Nat) (cy : Nat → ClassId) (M : za_M) {c : Nat} {y : za_L} (k v : Nat) (h : ¬ (y.1 = 12 ∧ y.2.1 = c)) : za_E g cy (za_uq M c k v) y = za_E g cy M y := by
  unfold za_E
  by_cases h1 : y.1 = 12
  · rw [za_uq_oth M k v (fun e => h ⟨h1, e⟩)]
    rfl
  · exact za_E_P g cy _ _ _ y h1
/-- the world -/
def za_Wl (g : za_L → Nat) (cy : Nat → ClassId) (M : za_M) : va_W := za_cells.map fun x => (g x, za_E g cy M x)
def za_A (g : za_L → Nat) : Nat → Prop := fun q => ∃ x ∈ za_cells, g x = q
def za_J (g : za_L → Nat) : Prop := ∀ x ∈ za_cells, ∀ y ∈ za_cells, g x = g y → x = y
theorem za_at (g : za_L → Nat) (cy : Nat → ClassId) (M : za_M) {q : Nat} {x : za_L} (h : za_cells[q]? = some x) : (za_Wl g cy M)[q]? = some (g x, za_E g cy M x) := by
  unfold za_Wl
  rw [List.getElem?_map, h]
  rfl
theorem za_set {g : za_L → Nat} {cy : Nat → ClassId} {M M' : za_M} {q : Nat} {x : za_L} (h : za_cells[q]? = some x) (ho : ∀ y ∈ za_cells, y ≠ x → za_E g cy M' y = za_E g cy M y) : (za_Wl g cy M).set q (g x, za_E g cy M' x) = za_Wl g cy M' := by
  unfold za_Wl
  refine List.ext_getElem? fun n => ?_
  by_cases hn : n = q
  · subst hn
    have hl := (List.getElem?_eq_some_iff.mp h).1
    rw [List.getElem?_set_self (by rw [List.length_map]; exact hl), List.getElem?_map, h]
    rfl
  · rw [List.getElem?_set_ne (fun e => hn e.symm), List.getElem?_map, List.getElem?_map]
    cases hy : za_cells[n]? with
    | none => rfl
    | some y =>
      show some (g y, za_E g cy M y) = some (g y, za_E g cy M' y)
      rw [ho y (List.mem_of_getElem? hy) (fun e => hn (za_inj hy (by rw [e]; exact h)))]
theorem za_DA {g : za_L → Nat} (cy : Nat → ClassId) (M : za_M) (hJ : za_J g) : va_D (za_A g) (za_Wl g cy M) := by
  refine ⟨fun i j a b hi hj e => ?_, fun k q hk => ?_⟩
  · unfold za_Wl at hi hj
    rw [List.getElem?_map] at hi hj
    cases hx : za_cells[i]? with
    | none => rw [hx] at hi; cases hi
    | some x =>
      cases hy : za_cells[j]? with
      | none => rw [hy] at hj; cases hj
      | some y =>
        rw [hx] at hi; rw [hy] at hj
        cases hi; cases hj
        have e2 := hJ x (List.mem_of_getElem? hx) y (List.mem_of_getElem? hy) e
        subst e2
        exact za_inj hx hy
  · unfold za_Wl at hk
    rw [List.getElem?_map] at hk
    cases hx : za_cells[k]? with
    | none => rw [hx] at hk; cases hk
    | some x =>
      rw [hx] at hk
      cases hk
      exact ⟨x, List.mem_of_getElem? hx, rfl⟩
/-- the good words -/
def lw_gd : List Cond := lw_tbl.filter goodWord
theorem za_gd {w : Cond} (i : Nat) (h : lw_tbl[i]? = some w) (hg : goodWord w = true) : w ∈ lw_gd := List.mem_filter.mpr ⟨List.mem_of_getElem? h, hg⟩
theorem za_gds {ws : List Cond} (h : ∀ w ∈ ws, w ∈ lw_tbl) (hg : ws.all goodWord = true) : ∀ w ∈ ws, w ∈ lw_gd := fun w hw => List.mem_filter.mpr ⟨h w hw, List.all_eq_true.mp hg w hw⟩
theorem za_gin {w : Cond} (hw : w ∈ lw_gd) : GoodIn lw_gd (w :: lw_gd) := fun x hx => (List.mem_cons.mp hx).elim (fun e => ⟨e ▸ hw, good_of_word (List.mem_filter.mp (e ▸ hw)).2⟩) (fun h => ⟨h, good_of_word (List.mem_filter.mp h).2⟩)
theorem za_gapp {a b : List Cond} (ha : ∀ w ∈ a, w ∈ lw_gd) (hb : GoodIn lw_gd b) : GoodIn lw_gd (a ++ b) := fun x hx => (List.mem_append.mp hx).elim (fun h => ⟨ha x h, good_of_word (List.mem_filter.mp (ha x h)).2⟩) (hb x)
end
section
/-! the judgement zt: the machine at a place of a method's body, over the world of M -/
def za_tys (cy : Nat → ClassId) : List (ClassId × FieldType) := [(cy 0, .int), (cy 1, .object RX0), (cy 2, .object RX4), (cy 3, .object RX3), (cy 4, .object RX2), (cy 5, .object RX6), (cy 6, .object "java/lang/String")]
def za_nm : List (String × Nat × MethodName) := [("AshLoans$County", 29, yX0_init), ("AshLoans$County", 30, yX4_init), ("AshLoans$County", 31, yX3_init), ("AshLoans", 28, yX5_init), ("AshLoans", 35, yX8_init), ("AshLoans", 56, yX6_init), ("AshLoans$County", 55, yX9_within), ("AshLoans$Reader", 18, yX9_held), ("AshLoans$Reader", 75, yX9_within), ("AshLoans$Law", 22, yX9_held), ("AshLoans$Potter", 28, yX9_held), ("AshLoans$County", 100, yX9_held), ("AshLoans$Voices", 43, yX9_within), ("AshLoans$Sheet", 19, yX9_held)]
def za_nf : List (String × Nat × String × String) := [("AshLoans$Reader", 71, "NAMES", "[C"), ("AshLoans$Voices", 40, "ABOVE", "[I")]
def za_nests : List Cond := za_nm.map (fun q => .methodLinkNest q.1 q.2.1 q.2.2 "AshLoans") ++ za_nf.map (fun q => .fieldLinkNest q.1 q.2.1 "AshLoans" q.2.2.1 q.2.2.2 "AshLoans")
def za_t0 (j : Nat) : Int32 := ([-1, 0, 0, 0, 1, 2, 3] : List Int32).getD j 0
def za_t1 (j : Nat) : Int32 := ([109, 107, 104, 110, 109, 100] : List Int32).getD j 0
def za_t2 (j : Nat) : Int32 := ([1, 10, 100, 1000, 10000, 100000] : List Int32).getD j 0
def za_t3 (j : Nat) : Int32 := ([10, 11, 12, 13, 20, 0, 0, 0, 0, 30, 0, 0, 0, 0, 40, 0, 0, 0, 0, 50, 0, 60, 0, 0, 0, 0, 70, 71] : List Int32).getD j 0
/-- what stands of the machine beside the world: classes, links among nest mates, static tables, texts -/
def za_F (g : za_L → Nat) (D : va_G) (cy : Nat → ClassId) (s : State) : Prop :=
  va_K D vwCl (za_tys cy) s ∧ (∀ w ∈ za_nests, va_Nw w s) ∧
  (va_Z "AshLoans" "ABOVE" "[I" (.ref (g (42, 0, 0))) (za_A g) s s.heap ∧ va_T .int (g (42, 0, 0)) 7 (fun j => .int (za_t0 j)) (za_A g) s s.heap) ∧
  (va_Z "AshLoans" "NAMES" "[C" (.ref (g (42, 0, 1))) (za_A g) s s.heap ∧ va_T .char (g (42, 0, 1)) 6 (fun j => .int (za_t1 j)) (za_A g) s s.heap) ∧
  (va_Z "AshLoans" "POWERS" "[I" (.ref (g (42, 0, 2))) (za_A g) s s.heap ∧ va_T .int (g (42, 0, 2)) 6 (fun j => .int (za_t2 j)) (za_A g) s s.heap) ∧
  (va_Z "AshLoans$Voices" "BODIES" "[I" (.ref (g (42, 0, 3))) (za_A g) s s.heap ∧ va_T .int (g (42, 0, 3)) 28 (fun j => .int (za_t3 j)) (za_A g) s s.heap) ∧
  vk_S 2 [3, 3] [[109, 107, 104], [110, 109, 100]] (fun i => g (41, 0, i)) (fun i => g (43, 0, i)) (za_A g) s s.heap ∧
  va_Z "java/lang/String" "COMPACT_STRINGS" "Z" (.int 1) (za_A g) s s.heap ∧ va_Zq "jdk/internal/util/Preconditions" "SIOOBE_FORMATTER" "Ljava/util/function/BiFunction;" (za_A g) s s.heap
theorem za_F.mv {g : za_L → Nat} {D : va_G} {cy : Nat → ClassId} {u U : State} (hn : ∀ w ∈ za_nests, va_Nw w u → va_Nw w U) (hvm : u.vm.Alike U.vm) (hq : ∀ a : Nat, a < u.heap.size → ¬ za_A g a → U.heap[a]? = u.heap[a]?) (h : za_F g D cy u) : za_F g D cy U := by
  obtain ⟨h1, h2, ⟨h3, h4⟩, ⟨h5, h6⟩, ⟨h7, h8⟩, ⟨h9, h10⟩, h11, h12, h13⟩ := h
  exact ⟨va_K.moved hvm h1, fun w hw => hn w hw (h2 w hw), ⟨(va_Z.moved hvm h3).kept hq, (va_T.moved hvm h4).kept hq⟩, ⟨(va_Z.moved hvm h5).kept hq, (va_T.moved hvm h6).kept hq⟩, ⟨(va_Z.moved hvm h7).kept hq, (va_T.moved hvm h8).kept hq⟩, ⟨(va_Z.moved hvm h9).kept hq, (va_T.moved hvm h10).kept hq⟩, (vk_S.moved hvm h11).kept hq, (va_Z.moved hvm h12).kept hq, (va_Zq.moved hvm h13).kept hq⟩
theorem za_nests_tab : ∀ w ∈ za_nests, w.onTables = true := by
  intro w h
  unfold za_nests at h
  rcases List.mem_append.mp h with h | h
  · obtain ⟨q, -, rfl⟩ := List.mem_map.mp h
    rfl
  · obtain ⟨q, -, rfl⟩ := List.mem_map.mp h
    rfl
theorem za_nests_warm {s U : State} (hW : s.WarmedH U.vm) : ∀ w ∈ za_nests, va_Nw w s → va_Nw w U := by
  intro w h hz
  unfold za_nests at h
  rcases List.mem_append.mp h with h | h
  · obtain ⟨q, -, rfl⟩ := List.mem_map.mp h
    exact va_Nw.warmM hW hz
  · obtain ⟨q, -, rfl⟩ := List.mem_map.mp h
    exact va_Nw.warmF hW hz
theorem za_F.go {g : za_L → Nat} {D : va_G} {cy : Nat → ClassId} {s U : State} {H : Heap} {locs : List Loc} (h : za_F g D cy s) (hU : U.heap = H) (hW : s.WarmedH U.vm) (hS : va_S (za_A g) s.heap H locs) : za_F g D cy U :=
  za_F.mv (za_nests_warm hW) hW.alike (fun a h1 h2 => by rw [hU]; exact hS.2.1 a h1 h2) h
theorem za_F.blind {g : za_L → Nat} {D : va_G} {cy : Nat → ClassId} {U V : State} (h : za_F g D cy U) (hv : U.vm = V.vm) (hh : V.heap = U.heap) : za_F g D cy V :=
  za_F.mv (fun w hw hz => va_Nw.same (za_nests_tab w hw) hv hz) (by rw [hv]; exact Vm.Alike.refl V.vm) (fun a _ _ => by rw [hh]) h
/-- what a body may use -/
def za_C (p : Program) (s : State) (m : MethodId) (args : Array Value) (c : Code) (cc : ByteArray) (nL : Nat) (own : String) (g : za_L → Nat) (D : va_G) (cy : Nat → ClassId) : Prop :=
  p.tables.exec = Jvm.exec ∧ c.code = cc ∧ c.maxLocals = nL ∧ s.vm.findClass own = some m.cls ∧ (∀ w ∈ lw_gd, w.before args s = true) ∧ za_F g D cy s ∧ za_J g
def zt (p : Program) (l : Launch) (e : Env) (R : Room) (s : State) (m : MethodId) (args : Array Value) (below : List Frame) (meth : Method) (c : Code) (nc ns : Nat) (Q : State → Prop) (g : za_L → Nat) (D : va_G) (cy : Nat → ClassId) (nL : Nat) (M : za_M) (pc : Nat) (lv : List (Nat × Value)) (st : List Value) : Prop :=
  ∀ (H : Heap) (locs : List Loc) (ls : Array Slot), va_P D vwCl (za_Wl g cy M) H → va_S (za_A g) s.heap H locs → lv_has ls nL lv → W p l e R s m args below meth c H locs nc ns Q (F0 m pc ls st)
section ZT
variable {p : Program} {l : Launch} {e : Env} {R : Room} {s : State} {m : MethodId} {args : Array Value} {below : List Frame} {meth : Method} {c : Code} {nc ns : Nat} {Q : State → Prop} {g : za_L → Nat} {D : va_G} {cy : Nat → ClassId} {nL : Nat} {cc : ByteArray} {own : String} {M : za_M} {pc : Nat} {lv : List (Nat × Value)} {rest : List Value}
theorem zt_iconst (C : za_C p s m args c cc nL own g D cy) {n : Int} {v : Int32} (hdg : decode cc pc = .ok (.iconst n, 1)) (hv : Int32.ofInt n = v) (k : zt p l e R s m args below meth c nc ns Q g D cy nL M (pc + 1) lv (.int v :: rest)) : zt p l e R s m args below meth c nc ns Q g D cy nL M pc lv (rest) := fun H locs ls hP hS hl => lv_iconst C.1 C.2.1 hdg hv (k H locs ls hP hS hl)
theorem zt_bipush (C : za_C p s m args c cc nL own g D cy) {n : Int} {v : Int32} (hdg : decode cc pc = .ok (.bipush n, 2)) (hv : (Int8.ofInt n).toInt32 = v) (k : zt p l e R s m args below meth c nc ns Q g D cy nL M (pc + 2) lv (.int v :: rest)) : zt p l e R s m args below meth c nc ns Q g D cy nL M pc lv (rest) := fun H locs ls hP hS hl => lv_bipush C.1 C.2.1 hdg hv (k H locs ls hP hS hl)
theorem zt_sipush (C : za_C p s m args c cc nL own g D cy) {n : Int} {v : Int32} (hdg : decode cc pc = .ok (.sipush n, 3)) (hv : (Int16.ofInt n).toInt32 = v) (k : zt p l e R s m args below meth c nc ns Q g D cy nL M (pc + 3) lv (.int v :: rest)) : zt p l e R s m args below meth c nc ns Q g D cy nL M pc lv (rest) := fun H locs ls hP hS hl => lv_sipush C.1 C.2.1 hdg hv (k H locs ls hP hS hl)
theorem zt_iadd (C : za_C p s m args c cc nL own g D cy) {x y : Int32} (hdg : decode cc pc = .ok (.iadd, 1)) (k : zt p l e R s m args below meth c nc ns Q g D cy nL M (pc + 1) lv (.int (x + y) :: rest)) : zt p l e R s m args below meth c nc ns Q g D cy nL M pc lv (.int y :: .int x :: rest) := fun H locs ls hP hS hl => lv_iadd C.1 C.2.1 hdg (k H locs ls hP hS hl)
theorem zt_isub (C : za_C p s m args c cc nL own g D cy) {x y : Int32} (hdg : decode cc pc = .ok (.isub, 1)) (k : zt p l e R s m args below meth c nc ns Q g D cy nL M (pc + 1) lv (.int (x - y) :: rest)) : zt p l e R s m args below meth c nc ns Q g D cy nL M pc lv (.int y :: .int x :: rest) := fun H locs ls hP hS hl => lv_isub C.1 C.2.1 hdg (k H locs ls hP hS hl)
theorem zt_imul (C : za_C p s m args c cc nL own g D cy) {x y : Int32} (hdg : decode cc pc = .ok (.imul, 1)) (k : zt p l e R s m args below meth c nc ns Q g D cy nL M (pc + 1) lv (.int (x * y) :: rest)) : zt p l e R s m args below meth c nc ns Q g D cy nL M pc lv (.int y :: .int x :: rest) := fun H locs ls hP hS hl => lv_imul C.1 C.2.1 hdg (k H locs ls hP hS hl)
theorem zt_iand (C : za_C p s m args c cc nL own g D cy) {x y : Int32} (hdg : decode cc pc = .ok (.iand, 1)) (k : zt p l e R s m args below meth c nc ns Q g D cy nL M (pc + 1) lv (.int (x &&& y) :: rest)) : zt p l e R s m args below meth c nc ns Q g D cy nL M pc lv (.int y :: .int x :: rest) := fun H locs ls hP hS hl => lv_iand C.1 C.2.1 hdg (k H locs ls hP hS hl)
theorem zt_ior (C : za_C p s m args c cc nL own g D cy) {x y : Int32} (hdg : decode cc pc = .ok (.ior, 1)) (k : zt p l e R s m args below meth c nc ns Q g D cy nL M (pc + 1) lv (.int (x ||| y) :: rest)) : zt p l e R s m args below meth c nc ns Q g D cy nL M pc lv (.int y :: .int x :: rest) := fun H locs ls hP hS hl => lv_ior C.1 C.2.1 hdg (k H locs ls hP hS hl)
theorem zt_ixor (C : za_C p s m args c cc nL own g D cy) {x y : Int32} (hdg : decode cc pc = .ok (.ixor, 1)) (k : zt p l e R s m args below meth c nc ns Q g D cy nL M (pc + 1) lv (.int (x ^^^ y) :: rest)) : zt p l e R s m args below meth c nc ns Q g D cy nL M pc lv (.int y :: .int x :: rest) := fun H locs ls hP hS hl => lv_ixor C.1 C.2.1 hdg (k H locs ls hP hS hl)
theorem zt_idiv (C : za_C p s m args c cc nL own g D cy) {x y : Int32} (hdg : decode cc pc = .ok (.idiv, 1)) (hne : ¬ y = 0) (k : zt p l e R s m args below meth c nc ns Q g D cy nL M (pc + 1) lv (.int (x / y) :: rest)) : zt p l e R s m args below meth c nc ns Q g D cy nL M pc lv (.int y :: .int x :: rest) := fun H locs ls hP hS hl => lv_idiv C.1 C.2.1 hdg hne (k H locs ls hP hS hl)
theorem zt_irem (C : za_C p s m args c cc nL own g D cy) {x y : Int32} (hdg : decode cc pc = .ok (.irem, 1)) (hne : ¬ y = 0) (k : zt p l e R s m args below meth c nc ns Q g D cy nL M (pc + 1) lv (.int (x - x / y * y) :: rest)) : zt p l e R s m args below meth c nc ns Q g D cy nL M pc lv (.int y :: .int x :: rest) := fun H locs ls hP hS hl => lv_irem C.1 C.2.1 hdg hne (k H locs ls hP hS hl)
theorem zt_ineg (C : za_C p s m args c cc nL own g D cy) {x : Int32} (hdg : decode cc pc = .ok (.ineg, 1)) (k : zt p l e R s m args below meth c nc ns Q g D cy nL M (pc + 1) lv (.int (-x) :: rest)) : zt p l e R s m args below meth c nc ns Q g D cy nL M pc lv (.int x :: rest) := fun H locs ls hP hS hl => lv_ineg C.1 C.2.1 hdg (k H locs ls hP hS hl)
theorem zt_ladd (C : za_C p s m args c cc nL own g D cy) {x y : Int64} (hdg : decode cc pc = .ok (.ladd, 1)) (k : zt p l e R s m args below meth c nc ns Q g D cy nL M (pc + 1) lv (.long (x + y) :: rest)) : zt p l e R s m args below meth c nc ns Q g D cy nL M pc lv (.long y :: .long x :: rest) := fun H locs ls hP hS hl => lv_ladd C.1 C.2.1 hdg (k H locs ls hP hS hl)
theorem zt_land (C : za_C p s m args c cc nL own g D cy) {x y : Int64} (hdg : decode cc pc = .ok (.land, 1)) (k : zt p l e R s m args below meth c nc ns Q g D cy nL M (pc + 1) lv (.long (x &&& y) :: rest)) : zt p l e R s m args below meth c nc ns Q g D cy nL M pc lv (.long y :: .long x :: rest) := fun H locs ls hP hS hl => lv_land C.1 C.2.1 hdg (k H locs ls hP hS hl)
theorem zt_lor (C : za_C p s m args c cc nL own g D cy) {x y : Int64} (hdg : decode cc pc = .ok (.lor, 1)) (k : zt p l e R s m args below meth c nc ns Q g D cy nL M (pc + 1) lv (.long (x ||| y) :: rest)) : zt p l e R s m args below meth c nc ns Q g D cy nL M pc lv (.long y :: .long x :: rest) := fun H locs ls hP hS hl => lv_lor C.1 C.2.1 hdg (k H locs ls hP hS hl)
theorem zt_ishl (C : za_C p s m args c cc nL own g D cy) {x y : Int32} (hdg : decode cc pc = .ok (.ishl, 1)) (k : zt p l e R s m args below meth c nc ns Q g D cy nL M (pc + 1) lv (.int (x <<< (y &&& 31)) :: rest)) : zt p l e R s m args below meth c nc ns Q g D cy nL M pc lv (.int y :: .int x :: rest) := fun H locs ls hP hS hl => lv_ishl C.1 C.2.1 hdg (k H locs ls hP hS hl)
theorem zt_ishr (C : za_C p s m args c cc nL own g D cy) {x y : Int32} (hdg : decode cc pc = .ok (.ishr, 1)) (k : zt p l e R s m args below meth c nc ns Q g D cy nL M (pc + 1) lv (.int (x >>> (y &&& 31)) :: rest)) : zt p l e R s m args below meth c nc ns Q g D cy nL M pc lv (.int y :: .int x :: rest) := fun H locs ls hP hS hl => lv_ishr C.1 C.2.1 hdg (k H locs ls hP hS hl)
theorem zt_iushr (C : za_C p s m args c cc nL own g D cy) {x y : Int32} (hdg : decode cc pc = .ok (.iushr, 1)) (k : zt p l e R s m args below meth c nc ns Q g D cy nL M (pc + 1) lv (.int ((x.toUInt32 >>> (y.toUInt32 &&& Int32.toUInt32 31)).toInt32) :: rest)) : zt p l e R s m args below meth c nc ns Q g D cy nL M pc lv (.int y :: .int x :: rest) := fun H locs ls hP hS hl => lv_iushr C.1 C.2.1 hdg rfl (k H locs ls hP hS hl)
theorem zt_lushr (C : za_C p s m args c cc nL own g D cy) {x : Int64} {y : Int32} (hdg : decode cc pc = .ok (.lushr, 1)) (k : zt p l e R s m args below meth c nc ns Q g D cy nL M (pc + 1) lv (.long ((x.toUInt64 >>> (y.toInt64.toUInt64 &&& Int64.toUInt64 63)).toInt64) :: rest)) : zt p l e R s m args below meth c nc ns Q g D cy nL M pc lv (.int y :: .long x :: rest) := fun H locs ls hP hS hl => lv_lushr C.1 C.2.1 hdg rfl (k H locs ls hP hS hl)
theorem zt_lshl (C : za_C p s m args c cc nL own g D cy) {x : Int64} {y : Int32} (hdg : decode cc pc = .ok (.lshl, 1)) (k : zt p l e R s m args below meth c nc ns Q g D cy nL M (pc + 1) lv (.long (x <<< (y.toInt64 &&& 63)) :: rest)) : zt p l e R s m args below meth c nc ns Q g D cy nL M pc lv (.int y :: .long x :: rest) := fun H locs ls hP hS hl => lv_lshl C.1 C.2.1 hdg rfl (k H locs ls hP hS hl)
theorem zt_lshr (C : za_C p s m args c cc nL own g D cy) {x : Int64} {y : Int32} (hdg : decode cc pc = .ok (.lshr, 1)) (k : zt p l e R s m args below meth c nc ns Q g D cy nL M (pc + 1) lv (.long (x >>> (y.toInt64 &&& 63)) :: rest)) : zt p l e R s m args below meth c nc ns Q g D cy nL M pc lv (.int y :: .long x :: rest) := fun H locs ls hP hS hl => lv_lshr C.1 C.2.1 hdg rfl (k H locs ls hP hS hl)
theorem zt_i2l (C : za_C p s m args c cc nL own g D cy) {x : Int32} (hdg : decode cc pc = .ok (.i2l, 1)) (k : zt p l e R s m args below meth c nc ns Q g D cy nL M (pc + 1) lv (.long (x.toInt64) :: rest)) : zt p l e R s m args below meth c nc ns Q g D cy nL M pc lv (.int x :: rest) := fun H locs ls hP hS hl => lv_i2l C.1 C.2.1 hdg rfl (k H locs ls hP hS hl)
theorem zt_l2i (C : za_C p s m args c cc nL own g D cy) {x : Int64} (hdg : decode cc pc = .ok (.l2i, 1)) (k : zt p l e R s m args below meth c nc ns Q g D cy nL M (pc + 1) lv (.int (x.toInt32) :: rest)) : zt p l e R s m args below meth c nc ns Q g D cy nL M pc lv (.long x :: rest) := fun H locs ls hP hS hl => lv_l2i C.1 C.2.1 hdg rfl (k H locs ls hP hS hl)
theorem zt_i2b (C : za_C p s m args c cc nL own g D cy) {x : Int32} (hdg : decode cc pc = .ok (.i2b, 1)) (k : zt p l e R s m args below meth c nc ns Q g D cy nL M (pc + 1) lv (.int (x.toInt8.toInt32) :: rest)) : zt p l e R s m args below meth c nc ns Q g D cy nL M pc lv (.int x :: rest) := fun H locs ls hP hS hl => lv_i2b C.1 C.2.1 hdg rfl (k H locs ls hP hS hl)
theorem zt_i2s (C : za_C p s m args c cc nL own g D cy) {x : Int32} (hdg : decode cc pc = .ok (.i2s, 1)) (k : zt p l e R s m args below meth c nc ns Q g D cy nL M (pc + 1) lv (.int (x.toInt16.toInt32) :: rest)) : zt p l e R s m args below meth c nc ns Q g D cy nL M pc lv (.int x :: rest) := fun H locs ls hP hS hl => lv_i2s C.1 C.2.1 hdg rfl (k H locs ls hP hS hl)
theorem zt_lcmp (C : za_C p s m args c cc nL own g D cy) {x y : Int64} (hdg : decode cc pc = .ok (.lcmp, 1)) (k : zt p l e R s m args below meth c nc ns Q g D cy nL M (pc + 1) lv (.int (lg_cmp x y) :: rest)) : zt p l e R s m args below meth c nc ns Q g D cy nL M pc lv (.long y :: .long x :: rest) := fun H locs ls hP hS hl => W.lcmp C.1 C.2.1 hdg (k H locs ls hP hS hl)
theorem zt_dup (C : za_C p s m args c cc nL own g D cy) {va : Value} (hdg : decode cc pc = .ok (.dup, 1)) (hva : va.category = 1) (k : zt p l e R s m args below meth c nc ns Q g D cy nL M (pc + 1) lv (va :: va :: rest)) : zt p l e R s m args below meth c nc ns Q g D cy nL M pc lv (va :: rest) := fun H locs ls hP hS hl => lv_dup C.1 C.2.1 hdg hva (k H locs ls hP hS hl)
theorem zt_dup2_11 (C : za_C p s m args c cc nL own g D cy) {va vb : Value} (hdg : decode cc pc = .ok (.dup2, 1)) (hva : va.category = 1) (hvb : vb.category = 1) (k : zt p l e R s m args below meth c nc ns Q g D cy nL M (pc + 1) lv (va :: vb :: va :: vb :: rest)) : zt p l e R s m args below meth c nc ns Q g D cy nL M pc lv (va :: vb :: rest) := fun H locs ls hP hS hl => lv_dup2_11 C.1 C.2.1 hdg hva hvb (k H locs ls hP hS hl)
theorem zt_pop (C : za_C p s m args c cc nL own g D cy) {va : Value} (hdg : decode cc pc = .ok (.pop, 1)) (hva : va.category = 1) (k : zt p l e R s m args below meth c nc ns Q g D cy nL M (pc + 1) lv (rest)) : zt p l e R s m args below meth c nc ns Q g D cy nL M pc lv (va :: rest) := fun H locs ls hP hS hl => lv_pop C.1 C.2.1 hdg hva (k H locs ls hP hS hl)
theorem zt_iload_n (C : za_C p s m args c cc nL own g D cy) {k : Fin 4} {x : Int32} (q : Nat) {i : Nat} (hdg : decode cc pc = .ok (.iload_n k, 1)) (hi : (k : Nat) = i) (hx : lv[q]? = some (i, .int x)) (kk : zt p l e R s m args below meth c nc ns Q g D cy nL M (pc + 1) lv (.int x :: rest)) : zt p l e R s m args below meth c nc ns Q g D cy nL M pc lv rest := fun H locs ls hP hS hl => lv_iload_n C.1 C.2.1 hdg hi (lv_at hl q hx) (kk H locs ls hP hS hl)
theorem zt_iload (C : za_C p s m args c cc nL own g D cy) {x : Int32} (q : Nat) {i : Nat} (hdg : decode cc pc = .ok (.iload i, 2)) (hx : lv[q]? = some (i, .int x)) (kk : zt p l e R s m args below meth c nc ns Q g D cy nL M (pc + 2) lv (.int x :: rest)) : zt p l e R s m args below meth c nc ns Q g D cy nL M pc lv rest := fun H locs ls hP hS hl => lv_iload C.1 C.2.1 hdg (lv_at hl q hx) (kk H locs ls hP hS hl)
theorem zt_istore_n (C : za_C p s m args c cc nL own g D cy) {k : Fin 4} {i : Nat} {x : Int32} (lv' : List (Nat × Value)) (hdg : decode cc pc = .ok (.istore_n k, 1)) (hi : (k : Nat) = i) (hn : i < nL) (hl0 : (i, Value.int x) :: lv.filter (fun q => !(q.1 == i) && !(q.1 + 1 == i && q.2.category == 2)) = lv') (kk : zt p l e R s m args below meth c nc ns Q g D cy nL M (pc + 1) lv' rest) : zt p l e R s m args below meth c nc ns Q g D cy nL M pc lv (.int x :: rest) := fun H locs ls hP hS hl => lv_istore_n C.1 C.2.1 hdg hi hl hn hl0 (fun ls hl => kk H locs ls hP hS hl)
theorem zt_istore (C : za_C p s m args c cc nL own g D cy) {i : Nat} {x : Int32} (lv' : List (Nat × Value)) (hdg : decode cc pc = .ok (.istore i, 2)) (hn : i < nL) (hl0 : (i, Value.int x) :: lv.filter (fun q => !(q.1 == i) && !(q.1 + 1 == i && q.2.category == 2)) = lv') (kk : zt p l e R s m args below meth c nc ns Q g D cy nL M (pc + 2) lv' rest) : zt p l e R s m args below meth c nc ns Q g D cy nL M pc lv (.int x :: rest) := fun H locs ls hP hS hl => lv_istore C.1 C.2.1 hdg hl hn hl0 (fun ls hl => kk H locs ls hP hS hl)
theorem zt_lload_n (C : za_C p s m args c cc nL own g D cy) {k : Fin 4} {x : Int64} (q : Nat) {i : Nat} (hdg : decode cc pc = .ok (.lload_n k, 1)) (hi : (k : Nat) = i) (hx : lv[q]? = some (i, .long x)) (kk : zt p l e R s m args below meth c nc ns Q g D cy nL M (pc + 1) lv (.long x :: rest)) : zt p l e R s m args below meth c nc ns Q g D cy nL M pc lv rest := fun H locs ls hP hS hl => lv_lload_n C.1 C.2.1 hdg hi (lv_at hl q hx) (kk H locs ls hP hS hl)
theorem zt_aload_n (C : za_C p s m args c cc nL own g D cy) {k : Fin 4} {x : Nat} (q : Nat) {i : Nat} (hdg : decode cc pc = .ok (.aload_n k, 1)) (hi : (k : Nat) = i) (hx : lv[q]? = some (i, .ref x)) (kk : zt p l e R s m args below meth c nc ns Q g D cy nL M (pc + 1) lv (.ref x :: rest)) : zt p l e R s m args below meth c nc ns Q g D cy nL M pc lv rest := fun H locs ls hP hS hl => lv_aload_n C.1 C.2.1 hdg hi (lv_at hl q hx) (kk H locs ls hP hS hl)
theorem zt_aload (C : za_C p s m args c cc nL own g D cy) {x : Nat} (q : Nat) {i : Nat} (hdg : decode cc pc = .ok (.aload i, 2)) (hx : lv[q]? = some (i, .ref x)) (kk : zt p l e R s m args below meth c nc ns Q g D cy nL M (pc + 2) lv (.ref x :: rest)) : zt p l e R s m args below meth c nc ns Q g D cy nL M pc lv rest := fun H locs ls hP hS hl => lv_aload C.1 C.2.1 hdg (lv_at hl q hx) (kk H locs ls hP hS hl)
theorem zt_astore_n (C : za_C p s m args c cc nL own g D cy) {k : Fin 4} {i : Nat} {x : Nat} (lv' : List (Nat × Value)) (hdg : decode cc pc = .ok (.astore_n k, 1)) (hi : (k : Nat) = i) (hn : i < nL) (hl0 : (i, Value.ref x) :: lv.filter (fun q => !(q.1 == i) && !(q.1 + 1 == i && q.2.category == 2)) = lv') (kk : zt p l e R s m args below meth c nc ns Q g D cy nL M (pc + 1) lv' rest) : zt p l e R s m args below meth c nc ns Q g D cy nL M pc lv (.ref x :: rest) := fun H locs ls hP hS hl => lv_astore_n C.1 C.2.1 hdg hi hl hn hl0 (fun ls hl => kk H locs ls hP hS hl)
theorem zt_astore (C : za_C p s m args c cc nL own g D cy) {i : Nat} {x : Nat} (lv' : List (Nat × Value)) (hdg : decode cc pc = .ok (.astore i, 2)) (hn : i < nL) (hl0 : (i, Value.ref x) :: lv.filter (fun q => !(q.1 == i) && !(q.1 + 1 == i && q.2.category == 2)) = lv') (kk : zt p l e R s m args below meth c nc ns Q g D cy nL M (pc + 2) lv' rest) : zt p l e R s m args below meth c nc ns Q g D cy nL M pc lv (.ref x :: rest) := fun H locs ls hP hS hl => lv_astore C.1 C.2.1 hdg hl hn hl0 (fun ls hl => kk H locs ls hP hS hl)
theorem zt_iinc (C : za_C p s m args c cc nL own g D cy) {i : Nat} {n : Int} {x v : Int32} (q : Nat) (lv' : List (Nat × Value)) (hdg : decode cc pc = .ok (.iinc i n, 3)) (hx : lv[q]? = some (i, .int x)) (hv : x + Int32.ofInt n = v) (hn : i < nL) (hl0 : (i, Value.int v) :: lv.filter (fun q => !(q.1 == i) && !(q.1 + 1 == i && q.2.category == 2)) = lv') (kk : zt p l e R s m args below meth c nc ns Q g D cy nL M (pc + 3) lv' rest) : zt p l e R s m args below meth c nc ns Q g D cy nL M pc lv rest := fun H locs ls hP hS hl => lv_iinc C.1 C.2.1 hdg hl (k := q) hx hv hn hl0 (fun ls hl => kk H locs ls hP hS hl)
theorem zt_sub (ks : List Nat) {lv' : List (Nat × Value)} (hl0 : lv_pick lv ks = lv') {st : List Value} (kk : zt p l e R s m args below meth c nc ns Q g D cy nL M pc lv' st) : zt p l e R s m args below meth c nc ns Q g D cy nL M pc lv st := fun H locs ls hP hS hl => kk H locs ls hP hS (lv_sub hl ks hl0)
end ZT
end
section
/-! rows of zt: branches, the heap, ends, calls -/
def za_FL (own : String) (index ci k N : Nat) (Cn : String) (T : u_T) (ref : String) : Prop := vwCl[ci]? = some (Cn, T, N) ∧ (∀ w ∈ u_ws Cn T N, w ∈ lw_gd) ∧ k < N ∧ Cond.fieldLink own index ref (T k).2.1 (T k).2.2.1 ∈ lw_gd ∧ (T k).1 = ref
def za_FT (k N : Nat) (T : u_T) (ty : FieldType) : Prop := (T k).2.2.2 = false ∧ parseFieldDescriptor (T k).2.2.1 = some ty ∧ (∃ ty0 : Nat → FieldType, ∀ k, k < N → parseFieldDescriptor (T k).2.2.1 = some (ty0 k)) ∧ ∀ a, a < N → ∀ b, b < N → a ≠ b → (T a).2.1 ≠ (T b).2.1
def za_cok (sp dp n : Int32) (n0 n1 : Nat) : Prop := ¬ sp < 0 ∧ ¬ dp < 0 ∧ ¬ n < 0 ∧ sp.toNatClampNeg + n.toNatClampNeg ≤ n0 ∧ dp.toNatClampNeg + n.toNatClampNeg ≤ n1
def za_B (v : Int32) : Prop := v = 0 ∨ v = 1
theorem za_Bn {v : Int32} (h : za_B v) : narrow .boolean (.int v) = .int v := by rcases h with rfl | rfl <;> rfl
theorem za_E_self (g : za_L → Nat) (cy : Nat → ClassId) (M : za_M) (x : za_L) (k : Nat) (v : Int32) : za_E g cy (za_up M x k v) x = za_E0 g cy (upd (M.1 x) k v) (M.2 x.2.1) x := by
  unfold za_E
  rw [za_up_row]
  rfl
theorem za_lt {i : Int32} {n : Nat} (h : vp_in i n) : i.toNatClampNeg < n := Nat.not_le.mp fun q => h (Or.inr q)
section ZU
variable {p : Program} {l : Launch} {e : Env} {R : Room} {s : State} {m : MethodId} {args : Array Value} {below : List Frame} {meth : Method} {c : Code} {nc ns : Nat} {Q : State → Prop} {g : za_L → Nat} {D : va_G} {cy : Nat → ClassId} {nL : Nat} {cc : ByteArray} {own : String} {M : za_M} {pc : Nat} {lv : List (Nat × Value)} {rest : List Value}
theorem zt_if_eq (C : za_C p s m args c cc nL own g D cy) {x : Int32} {off : Int} (tgt : Nat) (hdg : decode cc pc = .ok (.ifCond .eq off, 3)) (ht : (pc : Int) + off = (tgt : Int)) (kt : x = 0 → zt p l e R s m args below meth c nc ns Q g D cy nL M tgt lv rest) (kf : ¬ x = 0 → zt p l e R s m args below meth c nc ns Q g D cy nL M (pc + 3) lv rest) : zt p l e R s m args below meth c nc ns Q g D cy nL M pc lv (.int x :: rest) := fun H locs ls hP hS hl => lv_if_eq C.1 C.2.1 hdg ht (fun h => kt h H locs ls hP hS hl) (fun h => kf h H locs ls hP hS hl)
theorem zt_if_ne (C : za_C p s m args c cc nL own g D cy) {x : Int32} {off : Int} (tgt : Nat) (hdg : decode cc pc = .ok (.ifCond .ne off, 3)) (ht : (pc : Int) + off = (tgt : Int)) (kt : ¬ x = 0 → zt p l e R s m args below meth c nc ns Q g D cy nL M tgt lv rest) (kf : x = 0 → zt p l e R s m args below meth c nc ns Q g D cy nL M (pc + 3) lv rest) : zt p l e R s m args below meth c nc ns Q g D cy nL M pc lv (.int x :: rest) := fun H locs ls hP hS hl => lv_if_ne C.1 C.2.1 hdg ht (fun h => kt h H locs ls hP hS hl) (fun h => kf h H locs ls hP hS hl)
theorem zt_if_lt (C : za_C p s m args c cc nL own g D cy) {x : Int32} {off : Int} (tgt : Nat) (hdg : decode cc pc = .ok (.ifCond .lt off, 3)) (ht : (pc : Int) + off = (tgt : Int)) (kt : x < 0 → zt p l e R s m args below meth c nc ns Q g D cy nL M tgt lv rest) (kf : ¬ x < 0 → zt p l e R s m args below meth c nc ns Q g D cy nL M (pc + 3) lv rest) : zt p l e R s m args below meth c nc ns Q g D cy nL M pc lv (.int x :: rest) := fun H locs ls hP hS hl => lv_if_lt C.1 C.2.1 hdg ht (fun h => kt h H locs ls hP hS hl) (fun h => kf h H locs ls hP hS hl)
theorem zt_if_ge (C : za_C p s m args c cc nL own g D cy) {x : Int32} {off : Int} (tgt : Nat) (hdg : decode cc pc = .ok (.ifCond .ge off, 3)) (ht : (pc : Int) + off = (tgt : Int)) (kt : 0 ≤ x → zt p l e R s m args below meth c nc ns Q g D cy nL M tgt lv rest) (kf : ¬ 0 ≤ x → zt p l e R s m args below meth c nc ns Q g D cy nL M (pc + 3) lv rest) : zt p l e R s m args below meth c nc ns Q g D cy nL M pc lv (.int x :: rest) := fun H locs ls hP hS hl => lv_if_ge C.1 C.2.1 hdg ht (fun h => kt h H locs ls hP hS hl) (fun h => kf h H locs ls hP hS hl)
theorem zt_if_gt (C : za_C p s m args c cc nL own g D cy) {x : Int32} {off : Int} (tgt : Nat) (hdg : decode cc pc = .ok (.ifCond .gt off, 3)) (ht : (pc : Int) + off = (tgt : Int)) (kt : 0 < x → zt p l e R s m args below meth c nc ns Q g D cy nL M tgt lv rest) (kf : ¬ 0 < x → zt p l e R s m args below meth c nc ns Q g D cy nL M (pc + 3) lv rest) : zt p l e R s m args below meth c nc ns Q g D cy nL M pc lv (.int x :: rest) := fun H locs ls hP hS hl => lv_if_gt C.1 C.2.1 hdg ht (fun h => kt h H locs ls hP hS hl) (fun h => kf h H locs ls hP hS hl)
theorem zt_if_le (C : za_C p s m args c cc nL own g D cy) {x : Int32} {off : Int} (tgt : Nat) (hdg : decode cc pc = .ok (.ifCond .le off, 3)) (ht : (pc : Int) + off = (tgt : Int)) (kt : x ≤ 0 → zt p l e R s m args below meth c nc ns Q g D cy nL M tgt lv rest) (kf : ¬ x ≤ 0 → zt p l e R s m args below meth c nc ns Q g D cy nL M (pc + 3) lv rest) : zt p l e R s m args below meth c nc ns Q g D cy nL M pc lv (.int x :: rest) := fun H locs ls hP hS hl => lv_if_le C.1 C.2.1 hdg ht (fun h => kt h H locs ls hP hS hl) (fun h => kf h H locs ls hP hS hl)
theorem zt_icmp_eq (C : za_C p s m args c cc nL own g D cy) {x y : Int32} {off : Int} (tgt : Nat) (hdg : decode cc pc = .ok (.if_icmp .eq off, 3)) (ht : (pc : Int) + off = (tgt : Int)) (kt : x = y → zt p l e R s m args below meth c nc ns Q g D cy nL M tgt lv rest) (kf : ¬ x = y → zt p l e R s m args below meth c nc ns Q g D cy nL M (pc + 3) lv rest) : zt p l e R s m args below meth c nc ns Q g D cy nL M pc lv (.int y :: .int x :: rest) := fun H locs ls hP hS hl => lv_icmp_eq C.1 C.2.1 hdg ht (fun h => kt h H locs ls hP hS hl) (fun h => kf h H locs ls hP hS hl)
theorem zt_icmp_ne (C : za_C p s m args c cc nL own g D cy) {x y : Int32} {off : Int} (tgt : Nat) (hdg : decode cc pc = .ok (.if_icmp .ne off, 3)) (ht : (pc : Int) + off = (tgt : Int)) (kt : ¬ x = y → zt p l e R s m args below meth c nc ns Q g D cy nL M tgt lv rest) (kf : x = y → zt p l e R s m args below meth c nc ns Q g D cy nL M (pc + 3) lv rest) : zt p l e R s m args below meth c nc ns Q g D cy nL M pc lv (.int y :: .int x :: rest) := fun H locs ls hP hS hl => lv_icmp_ne C.1 C.2.1 hdg ht (fun h => kt h H locs ls hP hS hl) (fun h => kf h H locs ls hP hS hl)
theorem zt_icmp_lt (C : za_C p s m args c cc nL own g D cy) {x y : Int32} {off : Int} (tgt : Nat) (hdg : decode cc pc = .ok (.if_icmp .lt off, 3)) (ht : (pc : Int) + off = (tgt : Int)) (kt : x < y → zt p l e R s m args below meth c nc ns Q g D cy nL M tgt lv rest) (kf : ¬ x < y → zt p l e R s m args below meth c nc ns Q g D cy nL M (pc + 3) lv rest) : zt p l e R s m args below meth c nc ns Q g D cy nL M pc lv (.int y :: .int x :: rest) := fun H locs ls hP hS hl => lv_icmp_lt C.1 C.2.1 hdg ht (fun h => kt h H locs ls hP hS hl) (fun h => kf h H locs ls hP hS hl)
theorem zt_icmp_ge (C : za_C p s m args c cc nL own g D cy) {x y : Int32} {off : Int} (tgt : Nat) (hdg : decode cc pc = .ok (.if_icmp .ge off, 3)) (ht : (pc : Int) + off = (tgt : Int)) (kt : y ≤ x → zt p l e R s m args below meth c nc ns Q g D cy nL M tgt lv rest) (kf : ¬ y ≤ x → zt p l e R s m args below meth c nc ns Q g D cy nL M (pc + 3) lv rest) : zt p l e R s m args below meth c nc ns Q g D cy nL M pc lv (.int y :: .int x :: rest) := fun H locs ls hP hS hl => lv_icmp_ge C.1 C.2.1 hdg ht (fun h => kt h H locs ls hP hS hl) (fun h => kf h H locs ls hP hS hl)
theorem zt_icmp_gt (C : za_C p s m args c cc nL own g D cy) {x y : Int32} {off : Int} (tgt : Nat) (hdg : decode cc pc = .ok (.if_icmp .gt off, 3)) (ht : (pc : Int) + off = (tgt : Int)) (kt : y < x → zt p l e R s m args below meth c nc ns Q g D cy nL M tgt lv rest) (kf : ¬ y < x → zt p l e R s m args below meth c nc ns Q g D cy nL M (pc + 3) lv rest) : zt p l e R s m args below meth c nc ns Q g D cy nL M pc lv (.int y :: .int x :: rest) := fun H locs ls hP hS hl => lv_icmp_gt C.1 C.2.1 hdg ht (fun h => kt h H locs ls hP hS hl) (fun h => kf h H locs ls hP hS hl)
theorem zt_icmp_le (C : za_C p s m args c cc nL own g D cy) {x y : Int32} {off : Int} (tgt : Nat) (hdg : decode cc pc = .ok (.if_icmp .le off, 3)) (ht : (pc : Int) + off = (tgt : Int)) (kt : x ≤ y → zt p l e R s m args below meth c nc ns Q g D cy nL M tgt lv rest) (kf : ¬ x ≤ y → zt p l e R s m args below meth c nc ns Q g D cy nL M (pc + 3) lv rest) : zt p l e R s m args below meth c nc ns Q g D cy nL M pc lv (.int y :: .int x :: rest) := fun H locs ls hP hS hl => lv_icmp_le C.1 C.2.1 hdg ht (fun h => kt h H locs ls hP hS hl) (fun h => kf h H locs ls hP hS hl)
theorem zt_goto (C : za_C p s m args c cc nL own g D cy) {off : Int} (tgt : Nat) (hdg : decode cc pc = .ok (.goto off, 3)) (ht : (pc : Int) + off = (tgt : Int)) {st : List Value} (k : zt p l e R s m args below meth c nc ns Q g D cy nL M tgt lv st) : zt p l e R s m args below meth c nc ns Q g D cy nL M pc lv st := fun H locs ls hP hS hl => lv_goto C.1 C.2.1 hdg ht (k H locs ls hP hS hl)
theorem zt_lookup (C : za_C p s m args c cc nL own g D cy) {dflt : Int} {ps : Array (Int × Int)} {len : Nat} {x : Int32} {off : Int} (tgt : Nat) (hdg : decode cc pc = .ok (.lookupswitch dflt ps, len)) (hp : (ps.toList.zip (ps.toList.drop 1)).all (fun (a, next) => a.1 < next.1) = true) (ho : Op.lookupswitch.offset ps.toList dflt x.toInt = off) (ht : (pc : Int) + off = (tgt : Int)) (k : zt p l e R s m args below meth c nc ns Q g D cy nL M tgt lv rest) : zt p l e R s m args below meth c nc ns Q g D cy nL M pc lv (.int x :: rest) := fun H locs ls hP hS hl => lv_lookup C.1 C.2.1 hdg hp ho ht (k H locs ls hP hS hl)
theorem zt_tableIn (C : za_C p s m args c cc nL own g D cy) {dflt lo hi : Int} {offs : Array Int} {len : Nat} {x : Int32} {off : Int} (tgt : Nat) (hdg : decode cc pc = .ok (.tableswitch dflt lo hi offs, len)) (h1 : ¬ x.toInt < lo) (h2 : ¬ hi < x.toInt) (ho : offs[(x.toInt - lo).toNat]? = some off) (ht : (pc : Int) + off = (tgt : Int)) (k : zt p l e R s m args below meth c nc ns Q g D cy nL M tgt lv rest) : zt p l e R s m args below meth c nc ns Q g D cy nL M pc lv (.int x :: rest) := fun H locs ls hP hS hl => lv_tableIn C.1 C.2.1 hdg h1 h2 ho ht (k H locs ls hP hS hl)
theorem zt_tableOut (C : za_C p s m args c cc nL own g D cy) {dflt lo hi : Int} {offs : Array Int} {len : Nat} {x : Int32} (tgt : Nat) (hdg : decode cc pc = .ok (.tableswitch dflt lo hi offs, len)) (h : x.toInt < lo ∨ hi < x.toInt) (ht : (pc : Int) + dflt = (tgt : Int)) (k : zt p l e R s m args below meth c nc ns Q g D cy nL M tgt lv rest) : zt p l e R s m args below meth c nc ns Q g D cy nL M pc lv (.int x :: rest) := fun H locs ls hP hS hl => lv_tableOut C.1 C.2.1 hdg h ht (k H locs ls hP hS hl)
theorem zt_ldc (C : za_C p s m args c cc nL own g D cy) {v : Int32} {index : Nat} (hc : Cond.constant own index v ∈ lw_gd) (hdg : decode cc pc = .ok (.ldc index, 2)) (k : zt p l e R s m args below meth c nc ns Q g D cy nL M (pc + 2) lv (.int v :: rest)) : zt p l e R s m args below meth c nc ns Q g D cy nL M pc lv rest := fun H locs ls hP hS hl => lv_ldc C.1 C.2.1 C.2.2.2.1 (C.2.2.2.2.1 _ hc) hdg (k H locs ls hP hS hl)
theorem zt_ldc2 (C : za_C p s m args c cc nL own g D cy) {v : Int64} {index : Nat} (hc : Cond.constantLong own index v ∈ lw_gd) (hdg : decode cc pc = .ok (.ldc2_w index, 3)) (k : zt p l e R s m args below meth c nc ns Q g D cy nL M (pc + 3) lv (.long v :: rest)) : zt p l e R s m args below meth c nc ns Q g D cy nL M pc lv rest := fun H locs ls hP hS hl => lv_ldc2 C.1 C.2.1 C.2.2.2.1 (C.2.2.2.2.1 _ hc) hdg (k H locs ls hP hS hl)
theorem zt_get (C : za_C p s m args c cc nL own g D cy) {x : za_L} {index ci k N : Nat} {Cn ref : String} {T : u_T} {fs : List Value} {v : Value} (hx : x ∈ za_cells) (hf : za_FL own index ci k N Cn T ref) (he : za_E g cy M x = .inr (ci, fs)) (hv : fs[k]? = some v) (hdg : decode cc pc = .ok (.getfield index, 3)) (kk : zt p l e R s m args below meth c nc ns Q g D cy nL M (pc + 3) lv (v :: rest)) : zt p l e R s m args below meth c nc ns Q g D cy nL M pc lv (.ref (g x) :: rest) := by
  intro H locs ls hP hS hl
  obtain ⟨q0, hq⟩ := List.getElem?_of_mem hx
  obtain ⟨f1, f2, f3, f4, f5⟩ := hf
  exact va_get C.1 C.2.1 C.2.2.2.2.1 f2 C.2.2.2.1 C.2.2.2.2.2.1.1 hP q0 ((za_at g cy M hq).trans (by rw [he])) f1 k f3 (C.2.2.2.2.1 _ f4) (fun y hy => by rw [← f5]; exact hy) hv hdg (kk H locs ls hP hS hl)
theorem zt_put (C : za_C p s m args c cc nL own g D cy) {x : za_L} {index ci k N : Nat} {Cn ref : String} {T : u_T} {fs : List Value} {z : Int32} {ty : FieldType} (hx : x ∈ za_cells) (hf : za_FL own index ci k N Cn T ref) (ht : za_FT k N T ty) (hn : narrow ty (.int z) = .int z) (hfit : fits ty (.int z) = true) (he : za_E g cy M x = .inr (ci, fs)) (he' : za_E0 g cy (upd (M.1 x) k z) (M.2 x.2.1) x = .inr (ci, fs.set k (.int z))) (hlen : k < fs.length) (hdg : decode cc pc = .ok (.putfield index, 3)) (kk : zt p l e R s m args below meth c nc ns Q g D cy nL (za_up M x k z) (pc + 3) lv rest) : zt p l e R s m args below meth c nc ns Q g D cy nL M pc lv (.int z :: .ref (g x) :: rest) := by
  intro H locs ls hP hS hl
  obtain ⟨q0, hq⟩ := List.getElem?_of_mem hx
  obtain ⟨f1, f2, f3, f4, f5⟩ := hf
  obtain ⟨t1, t2, ⟨ty0, t3⟩, t4⟩ := ht
  have e1 := za_set (g := g) (cy := cy) (M := M) (M' := za_up M x k z) hq (fun y _ hy => za_E_up g cy M k z hy)
  rw [za_E_self, he'] at e1
  refine va_put C.1 C.2.1 C.2.2.2.2.1 f2 ty0 t3 t4 C.2.2.2.1 C.2.2.2.2.2.1.1 hP (za_DA cy M C.2.2.2.2.2.2) hS q0 ((za_at g cy M hq).trans (by rw [he])) f1 k f3 (C.2.2.2.2.1 _ f4) (fun y hy => by rw [← f5]; exact hy) t1 t2 hn hfit hlen hdg (fun H1 locs1 hP1 _ hS1 => ?_)
  rw [e1] at hP1
  exact kk H1 locs1 ls hP1 hS1 hl
theorem zt_iald (C : za_C p s m args c cc nL own g D cy) {x : za_L} {n : Nat} {i : Int32} (hx : x ∈ za_cells) (he : ∀ M : za_M, za_E g cy M x = .inl (cy 0, n, .inl (M.1 x))) (hin : vp_in i n) (hdg : decode cc pc = .ok (.iaload, 1)) (kk : zt p l e R s m args below meth c nc ns Q g D cy nL M (pc + 1) lv (.int (M.1 x i.toNatClampNeg) :: rest)) : zt p l e R s m args below meth c nc ns Q g D cy nL M pc lv (.int i :: .ref (g x) :: rest) := by
  intro H locs ls hP hS hl
  obtain ⟨q0, hq⟩ := List.getElem?_of_mem hx
  exact va_iald C.1 C.2.1 C.2.2.2.2.2.1.1 hP q0 0 ((za_at g cy M hq).trans (by rw [he])) rfl hin hdg (kk H locs ls hP hS hl)
theorem zt_iast (C : za_C p s m args c cc nL own g D cy) {x : za_L} {n : Nat} {i z : Int32} (hx : x ∈ za_cells) (he : ∀ M : za_M, za_E g cy M x = .inl (cy 0, n, .inl (M.1 x))) (hin : vp_in i n) (hdg : decode cc pc = .ok (.iastore, 1)) (kk : zt p l e R s m args below meth c nc ns Q g D cy nL (za_up M x i.toNatClampNeg z) (pc + 1) lv rest) : zt p l e R s m args below meth c nc ns Q g D cy nL M pc lv (.int z :: .int i :: .ref (g x) :: rest) := by
  intro H locs ls hP hS hl
  obtain ⟨q0, hq⟩ := List.getElem?_of_mem hx
  have e1 := za_set (g := g) (cy := cy) (M := M) (M' := za_up M x i.toNatClampNeg z) hq (fun y _ hy => za_E_up g cy M _ z hy)
  rw [he, za_up_row] at e1
  refine va_iast C.1 C.2.1 C.2.2.2.2.2.1.1 hP (za_DA cy M C.2.2.2.2.2.2) hS q0 0 ((za_at g cy M hq).trans (by rw [he])) rfl hin hdg (fun H1 locs1 hP1 _ hS1 => ?_)
  rw [e1] at hP1
  exact kk H1 locs1 ls hP1 hS1 hl
theorem zt_aald (C : za_C p s m args c cc nL own g D cy) {x : za_L} {n t : Nat} {Cn : String} {h : Nat → Nat} {i : Int32} (hx : x ∈ za_cells) (he : za_E g cy M x = .inl (cy t, n, .inr (.inr (.inr (.inr (fun j => some (h j))))))) (ht : (za_tys cy)[t]? = some (cy t, .object Cn)) (hin : vp_in i n) (hdg : decode cc pc = .ok (.aaload, 1)) (kk : zt p l e R s m args below meth c nc ns Q g D cy nL M (pc + 1) lv (.ref (h i.toNatClampNeg) :: rest)) : zt p l e R s m args below meth c nc ns Q g D cy nL M pc lv (.int i :: .ref (g x) :: rest) := by
  intro H locs ls hP hS hl
  obtain ⟨q0, hq⟩ := List.getElem?_of_mem hx
  exact va_aldq (f := fun j => some (h j)) C.1 C.2.1 C.2.2.2.2.2.1.1 hP q0 t ((za_at g cy M hq).trans (by rw [he])) ht hin hdg (kk H locs ls hP hS hl)
theorem zt_aast (C : za_C p s m args c cc nL own g D cy) {k j : Nat} {i : Int32} (hk : k < 3) (hj : j < 10) (hin : vp_in i 10) (hdg : decode cc pc = .ok (.aastore, 1)) (kk : zt p l e R s m args below meth c nc ns Q g D cy nL (za_uq M k i.toNatClampNeg j) (pc + 1) lv rest) : zt p l e R s m args below meth c nc ns Q g D cy nL M pc lv (.ref (g (5, k, j)) :: .int i :: .ref (g (12, k, 0)) :: rest) := by
  intro H locs ls hP hS hl
  have hx : (12, k, 0) ∈ za_cells := za_mem (j := 12) rfl hk (by decide)
  have hy : (5, k, j) ∈ za_cells := za_mem (j := 5) rfl hk hj
  obtain ⟨q0, hq⟩ := List.getElem?_of_mem hx
  obtain ⟨q1, hq1⟩ := List.getElem?_of_mem hy
  have e1 := za_set (g := g) (cy := cy) (M := M) (M' := za_uq M k i.toNatClampNeg j) hq (fun y hc hy => za_E_uq g cy M _ j (fun h => hy (by
    obtain ⟨y1, y2, y3⟩ := y
    obtain ⟨h1, h2⟩ := h
    simp only at h1 h2
    subst h1; subst h2
    have h3 : y3 = 0 := by
      unfold za_cells at hc
      obtain ⟨q, h4, h5⟩ := List.mem_flatMap.mp hc
      obtain ⟨c1, h6, h7⟩ := List.mem_flatMap.mp h5
      obtain ⟨i1, h8, h9⟩ := List.mem_map.mp h7
      simp only [Prod.mk.injEq] at h9
      obtain ⟨a1, a2, a3⟩ := h9
      have h10 : ∀ q ∈ za_kinds, q.1 = 12 → q.2.2 = 1 := by decide +kernel
      have h11 := h10 q h4 a1
      have h12 := List.mem_range.mp h8
      omega
    rw [h3])))
  have e2 : za_E g cy (za_uq M k i.toNatClampNeg j) (12, k, 0) = .inl (cy 3, 10, .inr (.inr (.inr (.inr (va_up (fun j => some (g (5, k, M.2 k j % 10))) i.toNatClampNeg (some (g (5, k, j)))))))) := by
    have e3 : (fun z => some (g (5, k, (za_uq M k i.toNatClampNeg j).2 k z % 10))) = va_up (fun z => some (g (5, k, M.2 k z % 10))) i.toNatClampNeg (some (g (5, k, j))) := by
      funext z
      unfold va_up za_uq
      by_cases hz : z = i.toNatClampNeg
      · simp [hz, Nat.mod_eq_of_lt hj]
      · simp [hz]
    rw [za_E_12, e3]
  rw [e2] at e1
  refine va_astq C.1 C.2.1 C.2.2.2.2.2.1.1 hP (za_DA cy M C.2.2.2.2.2.2) hS q0 3 q1 3 (n := 10) (r := (RX3, TX3, 5)) ((za_at g cy M hq).trans (by rw [za_E_12])) rfl ((za_at g cy M hq1).trans (by rw [za_E_5])) rfl hin hdg (fun H1 locs1 hP1 _ hS1 => ?_)
  rw [e1] at hP1
  exact kk H1 locs1 ls hP1 hS1 hl
theorem zt_gets (C : za_C p s m args c cc nL own g D cy) {Cn n d : String} {t index : Nat} (hZ : va_Z Cn n d (.ref t) (za_A g) s s.heap) (hw : Cond.fieldLink own index Cn n d ∈ lw_gd) (hdg : decode cc pc = .ok (.getstatic index, 3)) (kk : zt p l e R s m args below meth c nc ns Q g D cy nL M (pc + 3) lv (.ref t :: rest)) : zt p l e R s m args below meth c nc ns Q g D cy nL M pc lv rest := fun H locs ls hP hS hl => va_gets C.1 C.2.1 hZ hS C.2.2.2.1 (C.2.2.2.2.1 _ hw) (fun _ h => h) hdg (kk H locs ls hP hS hl)
theorem zt_getsN (C : za_C p s m args c cc nL own g D cy) {Cn n d host : String} {t index : Nat} (hZ : va_Z Cn n d (.ref t) (za_A g) s s.heap) (hw : Cond.fieldLinkNest own index Cn n d host ∈ za_nests) (hdg : decode cc pc = .ok (.getstatic index, 3)) (kk : zt p l e R s m args below meth c nc ns Q g D cy nL M (pc + 3) lv (.ref t :: rest)) : zt p l e R s m args below meth c nc ns Q g D cy nL M pc lv rest := fun H locs ls hP hS hl => va_getsN C.1 C.2.1 hZ hS C.2.2.2.1 (va_Nw.use rfl (C.2.2.2.2.2.1.2.1 _ hw)) (fun _ h => h) hdg (kk H locs ls hP hS hl)
theorem zt_tald (C : za_C p s m args c cc nL own g D cy) {t N : Nat} {f : Nat → Int32} {i : Int32} (hT : va_T .int t N (fun j => .int (f j)) (za_A g) s s.heap) (hin : vp_in i N) (hdg : decode cc pc = .ok (.iaload, 1)) (kk : zt p l e R s m args below meth c nc ns Q g D cy nL M (pc + 1) lv (.int (f i.toNatClampNeg) :: rest)) : zt p l e R s m args below meth c nc ns Q g D cy nL M pc lv (.int i :: .ref t :: rest) := fun H locs ls hP hS hl => va_ti C.1 C.2.1 hT hS hin rfl hdg (kk H locs ls hP hS hl)
theorem zt_tcald (C : za_C p s m args c cc nL own g D cy) {t N : Nat} {f : Nat → Int32} {i : Int32} (hT : va_T .char t N (fun j => .int (f j)) (za_A g) s s.heap) (hin : vp_in i N) (hdg : decode cc pc = .ok (.caload, 1)) (kk : zt p l e R s m args below meth c nc ns Q g D cy nL M (pc + 1) lv (.int (f i.toNatClampNeg) :: rest)) : zt p l e R s m args below meth c nc ns Q g D cy nL M pc lv (.int i :: .ref t :: rest) := fun H locs ls hP hS hl => va_tc C.1 C.2.1 hT hS hin rfl hdg (kk H locs ls hP hS hl)
theorem zt_copy (C : za_C p s m args c cc nL own g D cy) {x y : za_L} {n0 n1 : Nat} {sp dp n : Int32} {index : Nat} (hx : x ∈ za_cells) (hy : y ∈ za_cells) (he : ∀ M : za_M, za_E g cy M x = .inl (cy 0, n0, .inl (M.1 x))) (he1 : ∀ M : za_M, za_E g cy M y = .inl (cy 0, n1, .inl (M.1 y))) (hk : za_cok sp dp n n0 n1) (hlink : Cond.methodLink own index arraycopyName ∈ lw_gd) (hnat : Cond.native arraycopyName ∈ lw_gd) (hstat : Cond.static arraycopyName ∈ lw_gd) (hini : Cond.initialized "java/lang/System" ∈ lw_gd) (hframes : 1 ≤ R.frames) (hlocals : (rest.map fun v => v.category).sum + (nativeFrameWords "java/lang/System" "arraycopy" 5 + 11) ≤ R.locals) (hdg : decode cc pc = .ok (.invokestatic index, 3)) (kk : zt p l e R s m args below meth c nc ns Q g D cy nL (za_uf M y (va_cpy (M.1 x) (M.1 y) sp.toNatClampNeg dp.toNatClampNeg n.toNatClampNeg)) (pc + 3) lv rest) : zt p l e R s m args below meth c nc ns Q g D cy nL M pc lv (.int n :: .int dp :: .ref (g y) :: .int sp :: .ref (g x) :: rest) := by
  intro H locs ls hP hS hl
  obtain ⟨q0, hq⟩ := List.getElem?_of_mem hx
  obtain ⟨q1, hq1⟩ := List.getElem?_of_mem hy
  have e1 := za_set (g := g) (cy := cy) (M := M) (M' := za_uf M y (va_cpy (M.1 x) (M.1 y) sp.toNatClampNeg dp.toNatClampNeg n.toNatClampNeg)) hq1 (fun z _ hz => za_E_uf g cy M _ hz)
  rw [he1, za_uf_row] at e1
  have ts := C.2.2.2.2.1
  refine va_copyi C.1 C.2.1 (C.2.2.1.trans hl.1.symm) C.2.2.2.1 (ts _ hlink) (ts _ hnat) (ts _ hstat) (ts _ hini) C.2.2.2.2.2.1.1 hP (za_DA cy M C.2.2.2.2.2.2) hS q0 q1 0 0 ((za_at g cy M hq).trans (by rw [he])) ((za_at g cy M hq1).trans (by rw [he1])) rfl rfl rfl hk.1 hk.2.1 hk.2.2.1 hk.2.2.2.1 hk.2.2.2.2 (fun _ _ => rfl) hframes hlocals hdg (fun H1 locs1 hP1 _ hS1 => ?_)
  rw [e1] at hP1
  exact kk H1 locs1 ls hP1 hS1 hl
end ZU
/-- a method's contract: from the world of M it returns with K -/
def za_Pr (g : za_L → Nat) (D : va_G) (cy : Nat → ClassId) (vs : List Value) (M : za_M) : Array Value → State → Prop := va_Pc vs (fun U => va_P D vwCl (za_Wl g cy M) U.heap ∧ za_F g D cy U)
def za_Qi (g : za_L → Nat) (D : va_G) (cy : Nat → ClassId) (K : Int32 → za_M → Prop) : Array Value → State → Outcome → State → Prop := va_Qi K (fun M' t => va_P D vwCl (za_Wl g cy M') t.heap) (za_A g)
def za_Qv (g : za_L → Nat) (D : va_G) (cy : Nat → ClassId) (K : za_M → Prop) : Array Value → State → Outcome → State → Prop := va_Qv K (fun M' t => va_P D vwCl (za_Wl g cy M') t.heap) (za_A g)
abbrev za_rm (fr lo : Nat) : Room := { frames := fr, cells := 0, slots := 0, locals := lo }
def za_Mi (l : Launch) (g : za_L → Nat) (D : va_G) (cy : Nat → ClassId) (y : MethodName) (b : ByteArray) (n : Nat) (ret : Option FieldType) (fr lo : Nat) (vs : List Value) (M : za_M) (K : Int32 → za_M → Prop) : Prop := Met l y (.code y b n ret :: lw_gd) (za_rm fr lo) (za_Pr g D cy vs M) (za_Qi g D cy K) 0 0 (za_A g)
def za_Mv (l : Launch) (g : za_L → Nat) (D : va_G) (cy : Nat → ClassId) (y : MethodName) (b : ByteArray) (n : Nat) (ret : Option FieldType) (fr lo : Nat) (vs : List Value) (M : za_M) (K : za_M → Prop) : Prop := Met l y (.code y b n ret :: lw_gd) (za_rm fr lo) (za_Pr g D cy vs M) (za_Qv g D cy K) 0 0 (za_A g)
theorem za_Pr_blind (g : za_L → Nat) (D : va_G) (cy : Nat → ClassId) (vs : List Value) (M : za_M) : FrameBlind (za_Pr g D cy vs M) := fun a U g' mk h => ⟨h.1, h.2.1, za_F.blind (V := U.calling g' mk a) h.2.2 rfl rfl⟩
theorem za_openi {l : Launch} {g : za_L → Nat} {D : va_G} {cy : Nat → ClassId} {y : MethodName} {b : ByteArray} {n : Nat} {ret : Option FieldType} {fr lo : Nat} {vs : List Value} {M : za_M} {K : Int32 → za_M → Prop} (hJ : za_J g) (hy : plainName y.cls = true) (hn : (lg_sl vs).length ≤ n)
    (body : ∀ (p : Program) (e : Env) (s : State) (m : MethodId) (args : Array Value) (below : List Frame) (meth : Method) (c : Code), za_C p s m args c b n y.cls g D cy → meth.sig.returnType = ret → meth.locks = false → zt p l e (za_rm fr lo) s m args below meth c 0 0 (MQ below (za_Qi g D cy K) args s 0 0 (za_A g)) g D cy n M 0 (lv_args 0 vs) []) : za_Mi l g D cy y b n ret fr lo vs M K := by
  refine Met.ofW (cc := b) (maxL := n) (ret := ret) hy rfl ?_
  intro p e s m args below meth c s₁ B hml hv
  obtain ⟨rfl, hP, hF⟩ := hv
  have hts := atoms_spec (ws := .code y b n ret :: lw_gd) B.pre
  have h := body p e s m vs.toArray below meth c ⟨B.exec, B.bytes, hml, findClass_of_methodNamed B.named, fun w hw => hts w (List.mem_cons_of_mem _ hw), hF, hJ⟩ B.returns B.notSynchronized
  have hl := lv_entry vs hn
  rw [lg_entry_eq]
  exact h s.heap [] _ hP va_S.rf hl
theorem za_openv {l : Launch} {g : za_L → Nat} {D : va_G} {cy : Nat → ClassId} {y : MethodName} {b : ByteArray} {n : Nat} {ret : Option FieldType} {fr lo : Nat} {vs : List Value} {M : za_M} {K : za_M → Prop} (hJ : za_J g) (hy : plainName y.cls = true) (hn : (lg_sl vs).length ≤ n)
    (body : ∀ (p : Program) (e : Env) (s : State) (m : MethodId) (args : Array Value) (below : List Frame) (meth : Method) (c : Code), za_C p s m args c b n y.cls g D cy → meth.sig.returnType = ret → meth.locks = false → zt p l e (za_rm fr lo) s m args below meth c 0 0 (MQ below (za_Qv g D cy K) args s 0 0 (za_A g)) g D cy n M 0 (lv_args 0 vs) []) : za_Mv l g D cy y b n ret fr lo vs M K := by
  refine Met.ofW (cc := b) (maxL := n) (ret := ret) hy rfl ?_
  intro p e s m args below meth c s₁ B hml hv
  obtain ⟨rfl, hP, hF⟩ := hv
  have hts := atoms_spec (ws := .code y b n ret :: lw_gd) B.pre
  have h := body p e s m vs.toArray below meth c ⟨B.exec, B.bytes, hml, findClass_of_methodNamed B.named, fun w hw => hts w (List.mem_cons_of_mem _ hw), hF, hJ⟩ B.returns B.notSynchronized
  have hl := lv_entry vs hn
  rw [lg_entry_eq]
  exact h s.heap [] _ hP va_S.rf hl
section ZR
variable {p : Program} {l : Launch} {e : Env} {R : Room} {s : State} {m : MethodId} {args : Array Value} {below : List Frame} {meth : Method} {c : Code} {nc ns : Nat} {g : za_L → Nat} {D : va_G} {cy : Nat → ClassId} {nL : Nat} {cc : ByteArray} {own : String} {M : za_M} {pc : Nat} {lv : List (Nat × Value)} {rest : List Value}
theorem zt_ret (C : za_C p s m args c cc nL own g D cy) {K : Int32 → za_M → Prop} {ty : FieldType} {v : Int32} (hr : meth.sig.returnType = some ty) (hk : meth.locks = false) (hn : narrow ty (.int v) = .int v) (hdg : decode cc pc = .ok (.ireturn, 1)) (h : K v M) : zt p l e R s m args below meth c 0 0 (MQ below (za_Qi g D cy K) args s 0 0 (za_A g)) g D cy nL M pc lv [.int v] := fun H locs ls hP hS hl => W.zret C.1 C.2.1 hr hn (fun t ht hW => ⟨⟨v, M, rfl, h, show va_P D vwCl (za_Wl g cy M) t.heap by rw [ht]; exact hP⟩, hS.F ht⟩) hS.2.2 hdg hk
theorem zt_vret (C : za_C p s m args c cc nL own g D cy) {K : za_M → Prop} (hr : meth.sig.returnType = none) (hk : meth.locks = false) (hdg : decode cc pc = .ok (.return_, 1)) (h : K M) : zt p l e R s m args below meth c 0 0 (MQ below (za_Qv g D cy K) args s 0 0 (za_A g)) g D cy nL M pc lv [] := fun H locs ls hP hS hl => W.vret C.1 C.2.1 hr (fun t ht hW => ⟨⟨M, rfl, h, show va_P D vwCl (za_Wl g cy M) t.heap by rw [ht]; exact hP⟩, hS.F ht⟩) hS.2.2 hdg hk
end ZR
end
section
/-! calls: a callee's contract, and on behind it -/
def za_Y (y : MethodName) (b : ByteArray) (n : Nat) (ret : Option FieldType) (na : Nat) : Prop := Cond.code y b n ret ∈ lw_gd ∧ Cond.initialized y.cls ∈ lw_gd ∧ (y.cls ≠ "java/lang/invoke/MethodHandle" ∧ y.cls ≠ "java/lang/invoke/VarHandle" ∧ (parseMethodDescriptor y.desc).map (fun d => d.parameters.length) = some na)
def za_YV (own : String) (index : Nat) (y : MethodName) : Prop := Cond.methodLink own index y ∈ lw_gd ∧ Cond.instanceMethod y ∈ lw_gd ∧ Cond.selects y.cls y y ∈ lw_gd
def za_YS (own : String) (index : Nat) (y : MethodName) : Prop := Cond.methodLink own index y ∈ lw_gd ∧ Cond.static y ∈ lw_gd
def za_YN (own : String) (index : Nat) (y : MethodName) : Prop := Cond.methodLinkNest own index y "AshLoans" ∈ za_nests ∧ Cond.static y ∈ lw_gd
section ZC
variable {p : Program} {l : Launch} {e : Env} {R : Room} {s : State} {m : MethodId} {args : Array Value} {below : List Frame} {meth : Method} {c : Code} {nc ns : Nat} {Q : State → Prop} {g : za_L → Nat} {D : va_G} {cy : Nat → ClassId} {nL : Nat} {cc : ByteArray} {own : String} {M : za_M} {pc : Nat} {lv : List (Nat × Value)} {rest : List Value}
theorem zt_cVi (C : za_C p s m args c cc nL own g D cy) {y : MethodName} {b : ByteArray} {n fr lo index : Nat} {ret : Option FieldType} {K : Int32 → za_M → Prop} {x : za_L} {ci N : Nat} {T : u_T} {fs : List Value} (As : List Value) (hM : za_Mi l g D cy y b n ret fr lo (.ref (g x) :: As) M K) (hx : x ∈ za_cells) (he : za_E g cy M x = .inr (ci, fs)) (hc : vwCl[ci]? = some (y.cls, T, N)) (hY : za_Y y b n ret As.length) (hV : za_YV own index y) (hcat : (rest.map fun v => v.category).sum ≤ 8) (hR : fr + 1 ≤ R.frames ∧ 8 + (n + 11) + lo ≤ R.locals) (hf : nc + 0 ≤ R.cells ∧ ns + 0 ≤ R.slots) (hdg : decode cc pc = .ok (.invokevirtual index, 3)) {st : List Value} (hst : st = As.reverse ++ .ref (g x) :: rest) (kk : ∀ (r : Int32) (M' : za_M), K r M' → zt p l e R s m args below meth c nc ns Q g D cy nL M' (pc + 3) lv (.int r :: rest)) : zt p l e R s m args below meth c nc ns Q g D cy nL M pc lv st := by
  intro H locs ls hP hS hl
  obtain ⟨q0, hq⟩ := List.getElem?_of_mem hx
  obtain ⟨y1, y2, y3⟩ := hY
  obtain ⟨v1, v2, v3⟩ := hV
  subst hst
  have hG : GoodIn lw_gd (wsV own index y.cls y (.code y b n ret :: lw_gd)) := za_gapp (fun w hw => by
    rcases List.mem_cons.mp hw with h | hw
    · rw [h]; exact v1
    rcases List.mem_cons.mp hw with h | hw
    · rw [h]; exact v2
    rcases List.mem_cons.mp hw with h | hw
    · rw [h]; exact v3
    rw [List.mem_singleton.mp hw]; exact y2) (za_gin y1)
  refine va_calli (va_runV (As := As) (rest := rest) ⟨C.1, C.2.1, C.2.2.1, C.2.2.2.1, C.2.2.2.2.1⟩ hM (cwV As.length C.2.2.2.2.1 hG rfl rfl rfl ⟨rfl, y3⟩ hR) ⟨za_Pr_blind g D cy _ M, va_recv C.2.2.2.2.2.1.1 hP hc ((za_at g cy M hq).trans (by rw [he])), fun U hU hW => ⟨rfl, by rw [hU]; exact hP, za_F.go C.2.2.2.2.2.1 hU hW hS⟩⟩ rfl rfl hl.1 rfl (lv_room hcat) hdg hf) hS (fun q _ h => h) (fun q h => h) (fun r u t H1 locs1 ht hvm hw hB hz1 hk1 hS1 => kk r u hw H1 locs1 ls (by rw [← ht]; exact hB) hS1 hl)
theorem zt_cSi (C : za_C p s m args c cc nL own g D cy) {y : MethodName} {b : ByteArray} {n fr lo index : Nat} {ret : Option FieldType} {K : Int32 → za_M → Prop} (As : List Value) (hM : za_Mi l g D cy y b n ret fr lo As M K) (hY : za_Y y b n ret As.length) (hV : za_YS own index y) (hcat : (rest.map fun v => v.category).sum ≤ 8) (hR : fr + 1 ≤ R.frames ∧ 8 + (n + 11) + lo ≤ R.locals) (hf : nc + 0 ≤ R.cells ∧ ns + 0 ≤ R.slots) (hdg : decode cc pc = .ok (.invokestatic index, 3)) {st : List Value} (hst : st = As.reverse ++ rest) (kk : ∀ (r : Int32) (M' : za_M), K r M' → zt p l e R s m args below meth c nc ns Q g D cy nL M' (pc + 3) lv (.int r :: rest)) : zt p l e R s m args below meth c nc ns Q g D cy nL M pc lv st := by
  intro H locs ls hP hS hl
  obtain ⟨y1, y2, y3⟩ := hY
  obtain ⟨v1, v2⟩ := hV
  subst hst
  have hG : GoodIn lw_gd (va_wsS own index y (.code y b n ret :: lw_gd)) := za_gapp (fun w hw => by
    rcases List.mem_cons.mp hw with h | hw
    · rw [h]; exact v1
    rcases List.mem_cons.mp hw with h | hw
    · rw [h]; exact v2
    rw [List.mem_singleton.mp hw]; exact y2) (za_gin y1)
  refine va_calli (va_runS (As := As) (rest := rest) ⟨C.1, C.2.1, C.2.2.1, C.2.2.2.1, C.2.2.2.2.1⟩ hM (va_cwS As.length C.2.2.2.2.1 hG rfl rfl rfl y3 hR) ⟨za_Pr_blind g D cy _ M, fun U hU hW => ⟨rfl, by rw [hU]; exact hP, za_F.go C.2.2.2.2.2.1 hU hW hS⟩⟩ rfl rfl hl.1 rfl (lv_room hcat) hdg hf) hS (fun q _ h => h) (fun q h => h) (fun r u t H1 locs1 ht hvm hw hB hz1 hk1 hS1 => kk r u hw H1 locs1 ls (by rw [← ht]; exact hB) hS1 hl)
theorem zt_cNi (C : za_C p s m args c cc nL own g D cy) {y : MethodName} {b : ByteArray} {n fr lo index : Nat} {ret : Option FieldType} {K : Int32 → za_M → Prop} (As : List Value) (hM : za_Mi l g D cy y b n ret fr lo As M K) (hY : za_Y y b n ret As.length) (hV : za_YN own index y) (hcat : (rest.map fun v => v.category).sum ≤ 8) (hR : fr + 1 ≤ R.frames ∧ 8 + (n + 11) + lo ≤ R.locals) (hf : nc + 0 ≤ R.cells ∧ ns + 0 ≤ R.slots) (hdg : decode cc pc = .ok (.invokestatic index, 3)) {st : List Value} (hst : st = As.reverse ++ rest) (kk : ∀ (r : Int32) (M' : za_M), K r M' → zt p l e R s m args below meth c nc ns Q g D cy nL M' (pc + 3) lv (.int r :: rest)) : zt p l e R s m args below meth c nc ns Q g D cy nL M pc lv st := by
  intro H locs ls hP hS hl
  obtain ⟨y1, y2, y3⟩ := hY
  obtain ⟨v1, v2⟩ := hV
  subst hst
  refine va_calli (va_runSN (As := As) (rest := rest) ⟨C.1, C.2.1, C.2.2.1, C.2.2.2.1, C.2.2.2.2.1⟩ hM ⟨va_cnB As.length C.2.2.2.2.1 (za_gin y1) rfl rfl rfl (C.2.2.2.2.2.1.2.1 _ v1) (C.2.2.2.2.1 _ y2) y3 hR, C.2.2.2.2.1 _ v2, trivial⟩ ⟨za_Pr_blind g D cy _ M, fun U hU hW => ⟨rfl, by rw [hU]; exact hP, za_F.go C.2.2.2.2.2.1 hU hW hS⟩⟩ rfl rfl hl.1 rfl (lv_room hcat) hdg hf) hS (fun q _ h => h) (fun q h => h) (fun r u t H1 locs1 ht hvm hw hB hz1 hk1 hS1 => kk r u hw H1 locs1 ls (by rw [← ht]; exact hB) hS1 hl)
theorem zt_cVv (C : za_C p s m args c cc nL own g D cy) {y : MethodName} {b : ByteArray} {n fr lo index : Nat} {ret : Option FieldType} {K : za_M → Prop} {x : za_L} {ci N : Nat} {T : u_T} {fs : List Value} (As : List Value) (hM : za_Mv l g D cy y b n ret fr lo (.ref (g x) :: As) M K) (hx : x ∈ za_cells) (he : za_E g cy M x = .inr (ci, fs)) (hc : vwCl[ci]? = some (y.cls, T, N)) (hY : za_Y y b n ret As.length) (hV : za_YV own index y) (hcat : (rest.map fun v => v.category).sum ≤ 8) (hR : fr + 1 ≤ R.frames ∧ 8 + (n + 11) + lo ≤ R.locals) (hf : nc + 0 ≤ R.cells ∧ ns + 0 ≤ R.slots) (hdg : decode cc pc = .ok (.invokevirtual index, 3)) {st : List Value} (hst : st = As.reverse ++ .ref (g x) :: rest) (kk : ∀ (M' : za_M), K M' → zt p l e R s m args below meth c nc ns Q g D cy nL M' (pc + 3) lv (rest)) : zt p l e R s m args below meth c nc ns Q g D cy nL M pc lv st := by
  intro H locs ls hP hS hl
  obtain ⟨q0, hq⟩ := List.getElem?_of_mem hx
  obtain ⟨y1, y2, y3⟩ := hY
  obtain ⟨v1, v2, v3⟩ := hV
  subst hst
  have hG : GoodIn lw_gd (wsV own index y.cls y (.code y b n ret :: lw_gd)) := za_gapp (fun w hw => by
    rcases List.mem_cons.mp hw with h | hw
    · rw [h]; exact v1
    rcases List.mem_cons.mp hw with h | hw
    · rw [h]; exact v2
    rcases List.mem_cons.mp hw with h | hw
    · rw [h]; exact v3
    rw [List.mem_singleton.mp hw]; exact y2) (za_gin y1)
  refine va_callv (va_runV (As := As) (rest := rest) ⟨C.1, C.2.1, C.2.2.1, C.2.2.2.1, C.2.2.2.2.1⟩ hM (cwV As.length C.2.2.2.2.1 hG rfl rfl rfl ⟨rfl, y3⟩ hR) ⟨za_Pr_blind g D cy _ M, va_recv C.2.2.2.2.2.1.1 hP hc ((za_at g cy M hq).trans (by rw [he])), fun U hU hW => ⟨rfl, by rw [hU]; exact hP, za_F.go C.2.2.2.2.2.1 hU hW hS⟩⟩ rfl rfl hl.1 rfl (lv_room hcat) hdg hf) hS (fun q _ h => h) (fun q h => h) (fun u t H1 locs1 ht hvm hw hB hz1 hk1 hS1 => kk u hw H1 locs1 ls (by rw [← ht]; exact hB) hS1 hl)
theorem zt_cSv (C : za_C p s m args c cc nL own g D cy) {y : MethodName} {b : ByteArray} {n fr lo index : Nat} {ret : Option FieldType} {K : za_M → Prop} (As : List Value) (hM : za_Mv l g D cy y b n ret fr lo As M K) (hY : za_Y y b n ret As.length) (hV : za_YS own index y) (hcat : (rest.map fun v => v.category).sum ≤ 8) (hR : fr + 1 ≤ R.frames ∧ 8 + (n + 11) + lo ≤ R.locals) (hf : nc + 0 ≤ R.cells ∧ ns + 0 ≤ R.slots) (hdg : decode cc pc = .ok (.invokestatic index, 3)) {st : List Value} (hst : st = As.reverse ++ rest) (kk : ∀ (M' : za_M), K M' → zt p l e R s m args below meth c nc ns Q g D cy nL M' (pc + 3) lv (rest)) : zt p l e R s m args below meth c nc ns Q g D cy nL M pc lv st := by
  intro H locs ls hP hS hl
  obtain ⟨y1, y2, y3⟩ := hY
  obtain ⟨v1, v2⟩ := hV
  subst hst
  have hG : GoodIn lw_gd (va_wsS own index y (.code y b n ret :: lw_gd)) := za_gapp (fun w hw => by
    rcases List.mem_cons.mp hw with h | hw
    · rw [h]; exact v1
    rcases List.mem_cons.mp hw with h | hw
    · rw [h]; exact v2
    rw [List.mem_singleton.mp hw]; exact y2) (za_gin y1)
  refine va_callv (va_runS (As := As) (rest := rest) ⟨C.1, C.2.1, C.2.2.1, C.2.2.2.1, C.2.2.2.2.1⟩ hM (va_cwS As.length C.2.2.2.2.1 hG rfl rfl rfl y3 hR) ⟨za_Pr_blind g D cy _ M, fun U hU hW => ⟨rfl, by rw [hU]; exact hP, za_F.go C.2.2.2.2.2.1 hU hW hS⟩⟩ rfl rfl hl.1 rfl (lv_room hcat) hdg hf) hS (fun q _ h => h) (fun q h => h) (fun u t H1 locs1 ht hvm hw hB hz1 hk1 hS1 => kk u hw H1 locs1 ls (by rw [← ht]; exact hB) hS1 hl)
theorem zt_cNv (C : za_C p s m args c cc nL own g D cy) {y : MethodName} {b : ByteArray} {n fr lo index : Nat} {ret : Option FieldType} {K : za_M → Prop} (As : List Value) (hM : za_Mv l g D cy y b n ret fr lo As M K) (hY : za_Y y b n ret As.length) (hV : za_YN own index y) (hcat : (rest.map fun v => v.category).sum ≤ 8) (hR : fr + 1 ≤ R.frames ∧ 8 + (n + 11) + lo ≤ R.locals) (hf : nc + 0 ≤ R.cells ∧ ns + 0 ≤ R.slots) (hdg : decode cc pc = .ok (.invokestatic index, 3)) {st : List Value} (hst : st = As.reverse ++ rest) (kk : ∀ (M' : za_M), K M' → zt p l e R s m args below meth c nc ns Q g D cy nL M' (pc + 3) lv (rest)) : zt p l e R s m args below meth c nc ns Q g D cy nL M pc lv st := by
  intro H locs ls hP hS hl
  obtain ⟨y1, y2, y3⟩ := hY
  obtain ⟨v1, v2⟩ := hV
  subst hst
  refine va_callv (va_runSN (As := As) (rest := rest) ⟨C.1, C.2.1, C.2.2.1, C.2.2.2.1, C.2.2.2.2.1⟩ hM ⟨va_cnB As.length C.2.2.2.2.1 (za_gin y1) rfl rfl rfl (C.2.2.2.2.2.1.2.1 _ v1) (C.2.2.2.2.1 _ y2) y3 hR, C.2.2.2.2.1 _ v2, trivial⟩ ⟨za_Pr_blind g D cy _ M, fun U hU hW => ⟨rfl, by rw [hU]; exact hP, za_F.go C.2.2.2.2.2.1 hU hW hS⟩⟩ rfl rfl hl.1 rfl (lv_room hcat) hdg hf) hS (fun q _ h => h) (fun q h => h) (fun u t H1 locs1 ht hvm hw hB hz1 hk1 hS1 => kk u hw H1 locs1 ls (by rw [← ht]; exact hB) hS1 hl)
end ZC
def za_min (x y : Int32) : Int32 := if y < x then y else x
def za_max (x y : Int32) : Int32 := if x < y then y else x
section ZX
variable {p : Program} {l : Launch} {e : Env} {R : Room} {s : State} {m : MethodId} {args : Array Value} {below : List Frame} {meth : Method} {c : Code} {nc ns : Nat} {Q : State → Prop} {g : za_L → Nat} {D : va_G} {cy : Nat → ClassId} {nL : Nat} {cc : ByteArray} {own : String} {M : za_M} {pc : Nat} {lv : List (Nat × Value)} {rest : List Value}
theorem zt_ldcw (C : za_C p s m args c cc nL own g D cy) {v : Int32} {index : Nat} (hc : Cond.constant own index v ∈ lw_gd) (hdg : decode cc pc = .ok (.ldc_w index, 3)) (k : zt p l e R s m args below meth c nc ns Q g D cy nL M (pc + 3) lv (.int v :: rest)) : zt p l e R s m args below meth c nc ns Q g D cy nL M pc lv rest := fun H locs ls hP hS hl => lv_ldcw C.1 C.2.1 C.2.2.2.1 (C.2.2.2.2.1 _ hc) hdg (k H locs ls hP hS hl)
theorem zt_topi {x : Int32} (k : ∀ y : Int32, y = x → zt p l e R s m args below meth c nc ns Q g D cy nL M pc lv (.int y :: rest)) : zt p l e R s m args below meth c nc ns Q g D cy nL M pc lv (.int x :: rest) := k x rfl
theorem zt_topl {x : Int64} (k : ∀ y : Int64, y = x → zt p l e R s m args below meth c nc ns Q g D cy nL M pc lv (.long y :: rest)) : zt p l e R s m args below meth c nc ns Q g D cy nL M pc lv (.long x :: rest) := k x rfl
theorem zt_topM {st : List Value} (k : ∀ y : za_M, y = M → zt p l e R s m args below meth c nc ns Q g D cy nL y pc lv st) : zt p l e R s m args below meth c nc ns Q g D cy nL M pc lv st := k M rfl
theorem zt_mmin (C : za_C p s m args c cc nL own g D cy) {x y : Int32} {index : Nat} (hlink : Cond.methodLink own index Lib.Math.min.name ∈ lw_gd) (hstat : Cond.static Lib.Math.min.name ∈ lw_gd) (hini : Cond.initialized "java/lang/Math" ∈ lw_gd) (hcode : Cond.code Lib.Math.min.name Lib.Math.min.code 2 (some .int) ∈ lw_gd) (hframes : 1 ≤ R.frames) (hlocals : (rest.map fun v => v.category).sum + 13 ≤ R.locals) (hc : nc ≤ R.cells) (hs : ns ≤ R.slots) (hdg : decode cc pc = .ok (.invokestatic index, 3)) (k : zt p l e R s m args below meth c nc ns Q g D cy nL M (pc + 3) lv (.int (za_min x y) :: rest)) : zt p l e R s m args below meth c nc ns Q g D cy nL M pc lv (.int y :: .int x :: rest) := fun H locs ls hP hS hl => va_mmin C.1 C.2.1 (C.2.2.1.trans hl.1.symm) C.2.2.2.1 (C.2.2.2.2.1 _ hlink) (C.2.2.2.2.1 _ hstat) (C.2.2.2.2.1 _ hini) (C.2.2.2.2.1 _ hcode) hframes hlocals hc hs hdg (k H locs ls hP hS hl)
theorem zt_mmax (C : za_C p s m args c cc nL own g D cy) {x y : Int32} {index : Nat} (hlink : Cond.methodLink own index Lib.Math.max.name ∈ lw_gd) (hstat : Cond.static Lib.Math.max.name ∈ lw_gd) (hini : Cond.initialized "java/lang/Math" ∈ lw_gd) (hcode : Cond.code Lib.Math.max.name Lib.Math.max.code 2 (some .int) ∈ lw_gd) (hframes : 1 ≤ R.frames) (hlocals : (rest.map fun v => v.category).sum + 13 ≤ R.locals) (hc : nc ≤ R.cells) (hs : ns ≤ R.slots) (hdg : decode cc pc = .ok (.invokestatic index, 3)) (k : zt p l e R s m args below meth c nc ns Q g D cy nL M (pc + 3) lv (.int (za_max x y) :: rest)) : zt p l e R s m args below meth c nc ns Q g D cy nL M pc lv (.int y :: .int x :: rest) := fun H locs ls hP hS hl => va_mmax C.1 C.2.1 (C.2.2.1.trans hl.1.symm) C.2.2.2.1 (C.2.2.2.2.1 _ hlink) (C.2.2.2.2.1 _ hstat) (C.2.2.2.2.1 _ hini) (C.2.2.2.2.1 _ hcode) hframes hlocals hc hs hdg (k H locs ls hP hS hl)
end ZX
/-- a value named; a loop by fuel -/
def za_let {α : Type} (v : α) (k : α → Prop) : Prop := k v
theorem za_use {α : Type} {v y : α} {k : α → Prop} (h : za_let v k) (e : y = v) : k y := by rw [e]; exact h
def za_lp0 (body : (za_M → Prop) → za_M → Prop) : Nat → za_M → Prop
  | 0, _ => False
  | k+1, M => body (za_lp0 body k) M
theorem za_lp0_run {body : (za_M → Prop) → za_M → Prop} {Z : za_M → Prop} (h : ∀ L : za_M → Prop, (∀ (M : za_M), L M → Z M) → ∀ (M : za_M), body L M → Z M) : ∀ (k : Nat) (M : za_M), za_lp0 body k M → Z M := by
  intro k
  induction k with
  | zero => intro _ hh; exact hh.elim
  | succ k ih => intro M hh; exact h _ ih M hh
theorem za_lp0_ind {body : (za_M → Prop) → za_M → Prop} (I : Nat → za_M → Prop) (base : ∀ (M : za_M), I 0 M → ∀ L : za_M → Prop, body L M) (step : ∀ (k : Nat) (M : za_M), I (k + 1) M → ∀ L : za_M → Prop, (∀ (M : za_M), I k M → L M) → body L M) : ∀ (k : Nat) (M : za_M), I k M → ∃ n, za_lp0 body n M := by
  have h : ∀ (k : Nat) (M : za_M), I k M → za_lp0 body (k + 1) M := by
    intro k
    induction k with
    | zero => intro M hh; exact base M hh _
    | succ k ih => intro M hh; exact step k M hh _ ih
  exact fun k M hh => ⟨k + 1, h k M hh⟩
def za_lp1 {A0 : Type} (body : (A0 → za_M → Prop) → A0 → za_M → Prop) : Nat → A0 → za_M → Prop
  | 0, _, _ => False
  | k+1, x0, M => body (za_lp1 body k) x0 M
theorem za_lp1_run {A0 : Type} {body : (A0 → za_M → Prop) → A0 → za_M → Prop} {Z : A0 → za_M → Prop} (h : ∀ L : A0 → za_M → Prop, (∀ (x0 : A0) (M : za_M), L x0 M → Z x0 M) → ∀ (x0 : A0) (M : za_M), body L x0 M → Z x0 M) : ∀ (k : Nat) (x0 : A0) (M : za_M), za_lp1 body k x0 M → Z x0 M := by
  intro k
  induction k with
  | zero => intro _ _ hh; exact hh.elim
  | succ k ih => intro x0 M hh; exact h _ ih x0 M hh
theorem za_lp1_ind {A0 : Type} {body : (A0 → za_M → Prop) → A0 → za_M → Prop} (I : Nat → A0 → za_M → Prop) (base : ∀ (x0 : A0) (M : za_M), I 0 x0 M → ∀ L : A0 → za_M → Prop, body L x0 M) (step : ∀ (k : Nat) (x0 : A0) (M : za_M), I (k + 1) x0 M → ∀ L : A0 → za_M → Prop, (∀ (x0 : A0) (M : za_M), I k x0 M → L x0 M) → body L x0 M) : ∀ (k : Nat) (x0 : A0) (M : za_M), I k x0 M → ∃ n, za_lp1 body n x0 M := by
  have h : ∀ (k : Nat) (x0 : A0) (M : za_M), I k x0 M → za_lp1 body (k + 1) x0 M := by
    intro k
    induction k with
    | zero => intro x0 M hh; exact base x0 M hh _
    | succ k ih => intro x0 M hh; exact step k x0 M hh _ ih
  exact fun k x0 M hh => ⟨k + 1, h k x0 M hh⟩
def za_lp2 {A0 : Type} {A1 : Type} (body : (A0 → A1 → za_M → Prop) → A0 → A1 → za_M → Prop) : Nat → A0 → A1 → za_M → Prop
  | 0, _, _, _ => False
  | k+1, x0, x1, M => body (za_lp2 body k) x0 x1 M
theorem za_lp2_run {A0 : Type} {A1 : Type} {body : (A0 → A1 → za_M → Prop) → A0 → A1 → za_M → Prop} {Z : A0 → A1 → za_M → Prop} (h : ∀ L : A0 → A1 → za_M → Prop, (∀ (x0 : A0) (x1 : A1) (M : za_M), L x0 x1 M → Z x0 x1 M) → ∀ (x0 : A0) (x1 : A1) (M : za_M), body L x0 x1 M → Z x0 x1 M) : ∀ (k : Nat) (x0 : A0) (x1 : A1) (M : za_M), za_lp2 body k x0 x1 M → Z x0 x1 M := by
  intro k
  induction k with
  | zero => intro _ _ _ hh; exact hh.elim
  | succ k ih => intro x0 x1 M hh; exact h _ ih x0 x1 M hh
theorem za_lp2_ind {A0 : Type} {A1 : Type} {body : (A0 → A1 → za_M → Prop) → A0 → A1 → za_M → Prop} (I : Nat → A0 → A1 → za_M → Prop) (base : ∀ (x0 : A0) (x1 : A1) (M : za_M), I 0 x0 x1 M → ∀ L : A0 → A1 → za_M → Prop, body L x0 x1 M) (step : ∀ (k : Nat) (x0 : A0) (x1 : A1) (M : za_M), I (k + 1) x0 x1 M → ∀ L : A0 → A1 → za_M → Prop, (∀ (x0 : A0) (x1 : A1) (M : za_M), I k x0 x1 M → L x0 x1 M) → body L x0 x1 M) : ∀ (k : Nat) (x0 : A0) (x1 : A1) (M : za_M), I k x0 x1 M → ∃ n, za_lp2 body n x0 x1 M := by
  have h : ∀ (k : Nat) (x0 : A0) (x1 : A1) (M : za_M), I k x0 x1 M → za_lp2 body (k + 1) x0 x1 M := by
    intro k
    induction k with
    | zero => intro x0 x1 M hh; exact base x0 x1 M hh _
    | succ k ih => intro x0 x1 M hh; exact step k x0 x1 M hh _ ih
  exact fun k x0 x1 M hh => ⟨k + 1, h k x0 x1 M hh⟩
def za_lp3 {A0 : Type} {A1 : Type} {A2 : Type} (body : (A0 → A1 → A2 → za_M → Prop) → A0 → A1 → A2 → za_M → Prop) : Nat → A0 → A1 → A2 → za_M → Prop
  | 0, _, _, _, _ => False
  | k+1, x0, x1, x2, M => body (za_lp3 body k) x0 x1 x2 M
theorem za_lp3_run {A0 : Type} {A1 : Type} {A2 : Type} {body : (A0 → A1 → A2 → za_M → Prop) → A0 → A1 → A2 → za_M → Prop} {Z : A0 → A1 → A2 → za_M → Prop} (h : ∀ L : A0 → A1 → A2 → za_M → Prop, (∀ (x0 : A0) (x1 : A1) (x2 : A2) (M : za_M), L x0 x1 x2 M → Z x0 x1 x2 M) → ∀ (x0 : A0) (x1 : A1) (x2 : A2) (M : za_M), body L x0 x1 x2 M → Z x0 x1 x2 M) : ∀ (k : Nat) (x0 : A0) (x1 : A1) (x2 : A2) (M : za_M), za_lp3 body k x0 x1 x2 M → Z x0 x1 x2 M := by
  intro k
  induction k with
  | zero => intro _ _ _ _ hh; exact hh.elim
  | succ k ih => intro x0 x1 x2 M hh; exact h _ ih x0 x1 x2 M hh
theorem za_lp3_ind {A0 : Type} {A1 : Type} {A2 : Type} {body : (A0 → A1 → A2 → za_M → Prop) → A0 → A1 → A2 → za_M → Prop} (I : Nat → A0 → A1 → A2 → za_M → Prop) (base : ∀ (x0 : A0) (x1 : A1) (x2 : A2) (M : za_M), I 0 x0 x1 x2 M → ∀ L : A0 → A1 → A2 → za_M → Prop, body L x0 x1 x2 M) (step : ∀ (k : Nat) (x0 : A0) (x1 : A1) (x2 : A2) (M : za_M), I (k + 1) x0 x1 x2 M → ∀ L : A0 → A1 → A2 → za_M → Prop, (∀ (x0 : A0) (x1 : A1) (x2 : A2) (M : za_M), I k x0 x1 x2 M → L x0 x1 x2 M) → body L x0 x1 x2 M) : ∀ (k : Nat) (x0 : A0) (x1 : A1) (x2 : A2) (M : za_M), I k x0 x1 x2 M → ∃ n, za_lp3 body n x0 x1 x2 M := by
  have h : ∀ (k : Nat) (x0 : A0) (x1 : A1) (x2 : A2) (M : za_M), I k x0 x1 x2 M → za_lp3 body (k + 1) x0 x1 x2 M := by
    intro k
    induction k with
    | zero => intro x0 x1 x2 M hh; exact base x0 x1 x2 M hh _
    | succ k ih => intro x0 x1 x2 M hh; exact step k x0 x1 x2 M hh _ ih
  exact fun k x0 x1 x2 M hh => ⟨k + 1, h k x0 x1 x2 M hh⟩
def za_lp4 {A0 : Type} {A1 : Type} {A2 : Type} {A3 : Type} (body : (A0 → A1 → A2 → A3 → za_M → Prop) → A0 → A1 → A2 → A3 → za_M → Prop) : Nat → A0 → A1 → A2 → A3 → za_M → Prop
  | 0, _, _, _, _, _ => False
  | k+1, x0, x1, x2, x3, M => body (za_lp4 body k) x0 x1 x2 x3 M
theorem za_lp4_run {A0 : Type} {A1 : Type} {A2 : Type} {A3 : Type} {body : (A0 → A1 → A2 → A3 → za_M → Prop) → A0 → A1 → A2 → A3 → za_M → Prop} {Z : A0 → A1 → A2 → A3 → za_M → Prop} (h : ∀ L : A0 → A1 → A2 → A3 → za_M → Prop, (∀ (x0 : A0) (x1 : A1) (x2 : A2) (x3 : A3) (M : za_M), L x0 x1 x2 x3 M → Z x0 x1 x2 x3 M) → ∀ (x0 : A0) (x1 : A1) (x2 : A2) (x3 : A3) (M : za_M), body L x0 x1 x2 x3 M → Z x0 x1 x2 x3 M) : ∀ (k : Nat) (x0 : A0) (x1 : A1) (x2 : A2) (x3 : A3) (M : za_M), za_lp4 body k x0 x1 x2 x3 M → Z x0 x1 x2 x3 M := by
  intro k
  induction k with
  | zero => intro _ _ _ _ _ hh; exact hh.elim
  | succ k ih => intro x0 x1 x2 x3 M hh; exact h _ ih x0 x1 x2 x3 M hh
theorem za_lp4_ind {A0 : Type} {A1 : Type} {A2 : Type} {A3 : Type} {body : (A0 → A1 → A2 → A3 → za_M → Prop) → A0 → A1 → A2 → A3 → za_M → Prop} (I : Nat → A0 → A1 → A2 → A3 → za_M → Prop) (base : ∀ (x0 : A0) (x1 : A1) (x2 : A2) (x3 : A3) (M : za_M), I 0 x0 x1 x2 x3 M → ∀ L : A0 → A1 → A2 → A3 → za_M → Prop, body L x0 x1 x2 x3 M) (step : ∀ (k : Nat) (x0 : A0) (x1 : A1) (x2 : A2) (x3 : A3) (M : za_M), I (k + 1) x0 x1 x2 x3 M → ∀ L : A0 → A1 → A2 → A3 → za_M → Prop, (∀ (x0 : A0) (x1 : A1) (x2 : A2) (x3 : A3) (M : za_M), I k x0 x1 x2 x3 M → L x0 x1 x2 x3 M) → body L x0 x1 x2 x3 M) : ∀ (k : Nat) (x0 : A0) (x1 : A1) (x2 : A2) (x3 : A3) (M : za_M), I k x0 x1 x2 x3 M → ∃ n, za_lp4 body n x0 x1 x2 x3 M := by
  have h : ∀ (k : Nat) (x0 : A0) (x1 : A1) (x2 : A2) (x3 : A3) (M : za_M), I k x0 x1 x2 x3 M → za_lp4 body (k + 1) x0 x1 x2 x3 M := by
    intro k
    induction k with
    | zero => intro x0 x1 x2 x3 M hh; exact base x0 x1 x2 x3 M hh _
    | succ k ih => intro x0 x1 x2 x3 M hh; exact step k x0 x1 x2 x3 M hh _ ih
  exact fun k x0 x1 x2 x3 M hh => ⟨k + 1, h k x0 x1 x2 x3 M hh⟩
def za_lp5 {A0 : Type} {A1 : Type} {A2 : Type} {A3 : Type} {A4 : Type} (body : (A0 → A1 → A2 → A3 → A4 → za_M → Prop) → A0 → A1 → A2 → A3 → A4 → za_M → Prop) : Nat → A0 → A1 → A2 → A3 → A4 → za_M → Prop
  | 0, _, _, _, _, _, _ => False
  | k+1, x0, x1, x2, x3, x4, M => body (za_lp5 body k) x0 x1 x2 x3 x4 M
theorem za_lp5_run {A0 : Type} {A1 : Type} {A2 : Type} {A3 : Type} {A4 : Type} {body : (A0 → A1 → A2 → A3 → A4 → za_M → Prop) → A0 → A1 → A2 → A3 → A4 → za_M → Prop} {Z : A0 → A1 → A2 → A3 → A4 → za_M → Prop} (h : ∀ L : A0 → A1 → A2 → A3 → A4 → za_M → Prop, (∀ (x0 : A0) (x1 : A1) (x2 : A2) (x3 : A3) (x4 : A4) (M : za_M), L x0 x1 x2 x3 x4 M → Z x0 x1 x2 x3 x4 M) → ∀ (x0 : A0) (x1 : A1) (x2 : A2) (x3 : A3) (x4 : A4) (M : za_M), body L x0 x1 x2 x3 x4 M → Z x0 x1 x2 x3 x4 M) : ∀ (k : Nat) (x0 : A0) (x1 : A1) (x2 : A2) (x3 : A3) (x4 : A4) (M : za_M), za_lp5 body k x0 x1 x2 x3 x4 M → Z x0 x1 x2 x3 x4 M := by
  intro k
  induction k with
  | zero => intro _ _ _ _ _ _ hh; exact hh.elim
  | succ k ih => intro x0 x1 x2 x3 x4 M hh; exact h _ ih x0 x1 x2 x3 x4 M hh
theorem za_lp5_ind {A0 : Type} {A1 : Type} {A2 : Type} {A3 : Type} {A4 : Type} {body : (A0 → A1 → A2 → A3 → A4 → za_M → Prop) → A0 → A1 → A2 → A3 → A4 → za_M → Prop} (I : Nat → A0 → A1 → A2 → A3 → A4 → za_M → Prop) (base : ∀ (x0 : A0) (x1 : A1) (x2 : A2) (x3 : A3) (x4 : A4) (M : za_M), I 0 x0 x1 x2 x3 x4 M → ∀ L : A0 → A1 → A2 → A3 → A4 → za_M → Prop, body L x0 x1 x2 x3 x4 M) (step : ∀ (k : Nat) (x0 : A0) (x1 : A1) (x2 : A2) (x3 : A3) (x4 : A4) (M : za_M), I (k + 1) x0 x1 x2 x3 x4 M → ∀ L : A0 → A1 → A2 → A3 → A4 → za_M → Prop, (∀ (x0 : A0) (x1 : A1) (x2 : A2) (x3 : A3) (x4 : A4) (M : za_M), I k x0 x1 x2 x3 x4 M → L x0 x1 x2 x3 x4 M) → body L x0 x1 x2 x3 x4 M) : ∀ (k : Nat) (x0 : A0) (x1 : A1) (x2 : A2) (x3 : A3) (x4 : A4) (M : za_M), I k x0 x1 x2 x3 x4 M → ∃ n, za_lp5 body n x0 x1 x2 x3 x4 M := by
  have h : ∀ (k : Nat) (x0 : A0) (x1 : A1) (x2 : A2) (x3 : A3) (x4 : A4) (M : za_M), I k x0 x1 x2 x3 x4 M → za_lp5 body (k + 1) x0 x1 x2 x3 x4 M := by
    intro k
    induction k with
    | zero => intro x0 x1 x2 x3 x4 M hh; exact base x0 x1 x2 x3 x4 M hh _
    | succ k ih => intro x0 x1 x2 x3 x4 M hh; exact step k x0 x1 x2 x3 x4 M hh _ ih
  exact fun k x0 x1 x2 x3 x4 M hh => ⟨k + 1, h k x0 x1 x2 x3 x4 M hh⟩
def za_lp6 {A0 : Type} {A1 : Type} {A2 : Type} {A3 : Type} {A4 : Type} {A5 : Type} (body : (A0 → A1 → A2 → A3 → A4 → A5 → za_M → Prop) → A0 → A1 → A2 → A3 → A4 → A5 → za_M → Prop) : Nat → A0 → A1 → A2 → A3 → A4 → A5 → za_M → Prop
  | 0, _, _, _, _, _, _, _ => False
  | k+1, x0, x1, x2, x3, x4, x5, M => body (za_lp6 body k) x0 x1 x2 x3 x4 x5 M
theorem za_lp6_run {A0 : Type} {A1 : Type} {A2 : Type} {A3 : Type} {A4 : Type} {A5 : Type} {body : (A0 → A1 → A2 → A3 → A4 → A5 → za_M → Prop) → A0 → A1 → A2 → A3 → A4 → A5 → za_M → Prop} {Z : A0 → A1 → A2 → A3 → A4 → A5 → za_M → Prop} (h : ∀ L : A0 → A1 → A2 → A3 → A4 → A5 → za_M → Prop, (∀ (x0 : A0) (x1 : A1) (x2 : A2) (x3 : A3) (x4 : A4) (x5 : A5) (M : za_M), L x0 x1 x2 x3 x4 x5 M → Z x0 x1 x2 x3 x4 x5 M) → ∀ (x0 : A0) (x1 : A1) (x2 : A2) (x3 : A3) (x4 : A4) (x5 : A5) (M : za_M), body L x0 x1 x2 x3 x4 x5 M → Z x0 x1 x2 x3 x4 x5 M) : ∀ (k : Nat) (x0 : A0) (x1 : A1) (x2 : A2) (x3 : A3) (x4 : A4) (x5 : A5) (M : za_M), za_lp6 body k x0 x1 x2 x3 x4 x5 M → Z x0 x1 x2 x3 x4 x5 M := by
  intro k
  induction k with
  | zero => intro _ _ _ _ _ _ _ hh; exact hh.elim
  | succ k ih => intro x0 x1 x2 x3 x4 x5 M hh; exact h _ ih x0 x1 x2 x3 x4 x5 M hh
theorem za_lp6_ind {A0 : Type} {A1 : Type} {A2 : Type} {A3 : Type} {A4 : Type} {A5 : Type} {body : (A0 → A1 → A2 → A3 → A4 → A5 → za_M → Prop) → A0 → A1 → A2 → A3 → A4 → A5 → za_M → Prop} (I : Nat → A0 → A1 → A2 → A3 → A4 → A5 → za_M → Prop) (base : ∀ (x0 : A0) (x1 : A1) (x2 : A2) (x3 : A3) (x4 : A4) (x5 : A5) (M : za_M), I 0 x0 x1 x2 x3 x4 x5 M → ∀ L : A0 → A1 → A2 → A3 → A4 → A5 → za_M → Prop, body L x0 x1 x2 x3 x4 x5 M) (step : ∀ (k : Nat) (x0 : A0) (x1 : A1) (x2 : A2) (x3 : A3) (x4 : A4) (x5 : A5) (M : za_M), I (k + 1) x0 x1 x2 x3 x4 x5 M → ∀ L : A0 → A1 → A2 → A3 → A4 → A5 → za_M → Prop, (∀ (x0 : A0) (x1 : A1) (x2 : A2) (x3 : A3) (x4 : A4) (x5 : A5) (M : za_M), I k x0 x1 x2 x3 x4 x5 M → L x0 x1 x2 x3 x4 x5 M) → body L x0 x1 x2 x3 x4 x5 M) : ∀ (k : Nat) (x0 : A0) (x1 : A1) (x2 : A2) (x3 : A3) (x4 : A4) (x5 : A5) (M : za_M), I k x0 x1 x2 x3 x4 x5 M → ∃ n, za_lp6 body n x0 x1 x2 x3 x4 x5 M := by
  have h : ∀ (k : Nat) (x0 : A0) (x1 : A1) (x2 : A2) (x3 : A3) (x4 : A4) (x5 : A5) (M : za_M), I k x0 x1 x2 x3 x4 x5 M → za_lp6 body (k + 1) x0 x1 x2 x3 x4 x5 M := by
    intro k
    induction k with
    | zero => intro x0 x1 x2 x3 x4 x5 M hh; exact base x0 x1 x2 x3 x4 x5 M hh _
    | succ k ih => intro x0 x1 x2 x3 x4 x5 M hh; exact step k x0 x1 x2 x3 x4 x5 M hh _ ih
  exact fun k x0 x1 x2 x3 x4 x5 M hh => ⟨k + 1, h k x0 x1 x2 x3 x4 x5 M hh⟩
def za_lp7 {A0 : Type} {A1 : Type} {A2 : Type} {A3 : Type} {A4 : Type} {A5 : Type} {A6 : Type} (body : (A0 → A1 → A2 → A3 → A4 → A5 → A6 → za_M → Prop) → A0 → A1 → A2 → A3 → A4 → A5 → A6 → za_M → Prop) : Nat → A0 → A1 → A2 → A3 → A4 → A5 → A6 → za_M → Prop
  | 0, _, _, _, _, _, _, _, _ => False
  | k+1, x0, x1, x2, x3, x4, x5, x6, M => body (za_lp7 body k) x0 x1 x2 x3 x4 x5 x6 M
theorem za_lp7_run {A0 : Type} {A1 : Type} {A2 : Type} {A3 : Type} {A4 : Type} {A5 : Type} {A6 : Type} {body : (A0 → A1 → A2 → A3 → A4 → A5 → A6 → za_M → Prop) → A0 → A1 → A2 → A3 → A4 → A5 → A6 → za_M → Prop} {Z : A0 → A1 → A2 → A3 → A4 → A5 → A6 → za_M → Prop} (h : ∀ L : A0 → A1 → A2 → A3 → A4 → A5 → A6 → za_M → Prop, (∀ (x0 : A0) (x1 : A1) (x2 : A2) (x3 : A3) (x4 : A4) (x5 : A5) (x6 : A6) (M : za_M), L x0 x1 x2 x3 x4 x5 x6 M → Z x0 x1 x2 x3 x4 x5 x6 M) → ∀ (x0 : A0) (x1 : A1) (x2 : A2) (x3 : A3) (x4 : A4) (x5 : A5) (x6 : A6) (M : za_M), body L x0 x1 x2 x3 x4 x5 x6 M → Z x0 x1 x2 x3 x4 x5 x6 M) : ∀ (k : Nat) (x0 : A0) (x1 : A1) (x2 : A2) (x3 : A3) (x4 : A4) (x5 : A5) (x6 : A6) (M : za_M), za_lp7 body k x0 x1 x2 x3 x4 x5 x6 M → Z x0 x1 x2 x3 x4 x5 x6 M := by
  intro k
  induction k with
  | zero => intro _ _ _ _ _ _ _ _ hh; exact hh.elim
  | succ k ih => intro x0 x1 x2 x3 x4 x5 x6 M hh; exact h _ ih x0 x1 x2 x3 x4 x5 x6 M hh
theorem za_lp7_ind {A0 : Type} {A1 : Type} {A2 : Type} {A3 : Type} {A4 : Type} {A5 : Type} {A6 : Type} {body : (A0 → A1 → A2 → A3 → A4 → A5 → A6 → za_M → Prop) → A0 → A1 → A2 → A3 → A4 → A5 → A6 → za_M → Prop} (I : Nat → A0 → A1 → A2 → A3 → A4 → A5 → A6 → za_M → Prop) (base : ∀ (x0 : A0) (x1 : A1) (x2 : A2) (x3 : A3) (x4 : A4) (x5 : A5) (x6 : A6) (M : za_M), I 0 x0 x1 x2 x3 x4 x5 x6 M → ∀ L : A0 → A1 → A2 → A3 → A4 → A5 → A6 → za_M → Prop, body L x0 x1 x2 x3 x4 x5 x6 M) (step : ∀ (k : Nat) (x0 : A0) (x1 : A1) (x2 : A2) (x3 : A3) (x4 : A4) (x5 : A5) (x6 : A6) (M : za_M), I (k + 1) x0 x1 x2 x3 x4 x5 x6 M → ∀ L : A0 → A1 → A2 → A3 → A4 → A5 → A6 → za_M → Prop, (∀ (x0 : A0) (x1 : A1) (x2 : A2) (x3 : A3) (x4 : A4) (x5 : A5) (x6 : A6) (M : za_M), I k x0 x1 x2 x3 x4 x5 x6 M → L x0 x1 x2 x3 x4 x5 x6 M) → body L x0 x1 x2 x3 x4 x5 x6 M) : ∀ (k : Nat) (x0 : A0) (x1 : A1) (x2 : A2) (x3 : A3) (x4 : A4) (x5 : A5) (x6 : A6) (M : za_M), I k x0 x1 x2 x3 x4 x5 x6 M → ∃ n, za_lp7 body n x0 x1 x2 x3 x4 x5 x6 M := by
  have h : ∀ (k : Nat) (x0 : A0) (x1 : A1) (x2 : A2) (x3 : A3) (x4 : A4) (x5 : A5) (x6 : A6) (M : za_M), I k x0 x1 x2 x3 x4 x5 x6 M → za_lp7 body (k + 1) x0 x1 x2 x3 x4 x5 x6 M := by
    intro k
    induction k with
    | zero => intro x0 x1 x2 x3 x4 x5 x6 M hh; exact base x0 x1 x2 x3 x4 x5 x6 M hh _
    | succ k ih => intro x0 x1 x2 x3 x4 x5 x6 M hh; exact step k x0 x1 x2 x3 x4 x5 x6 M hh _ ih
  exact fun k x0 x1 x2 x3 x4 x5 x6 M hh => ⟨k + 1, h k x0 x1 x2 x3 x4 x5 x6 M hh⟩
end
section
theorem dX0_init_0 : decode cX0_init 0 = .ok (.aload_n 0, 1) := by decide +kernel
theorem dX0_init_1 : decode cX0_init 1 = .ok (.invokespecial 3, 3) := by decide +kernel
theorem dX0_init_4 : decode cX0_init 4 = .ok (.return_, 1) := by decide +kernel
theorem dX0_begin_0 : decode cX0_begin 0 = .ok (.aload_n 0, 1) := by decide +kernel
theorem dX0_begin_1 : decode cX0_begin 1 = .ok (.iload_n 1, 1) := by decide +kernel
theorem dX0_begin_2 : decode cX0_begin 2 = .ok (.bipush 10, 2) := by decide +kernel
theorem dX0_begin_4 : decode cX0_begin 4 = .ok (.idiv, 1) := by decide +kernel
theorem dX0_begin_5 : decode cX0_begin 5 = .ok (.putfield 9, 3) := by decide +kernel
theorem dX0_begin_8 : decode cX0_begin 8 = .ok (.aload_n 0, 1) := by decide +kernel
theorem dX0_begin_9 : decode cX0_begin 9 = .ok (.iload_n 1, 1) := by decide +kernel
theorem dX0_begin_10 : decode cX0_begin 10 = .ok (.bipush 10, 2) := by decide +kernel
theorem dX0_begin_12 : decode cX0_begin 12 = .ok (.irem, 1) := by decide +kernel
theorem dX0_begin_13 : decode cX0_begin 13 = .ok (.putfield 15, 3) := by decide +kernel
theorem dX0_begin_16 : decode cX0_begin 16 = .ok (.aload_n 0, 1) := by decide +kernel
theorem dX0_begin_17 : decode cX0_begin 17 = .ok (.iconst 0, 1) := by decide +kernel
theorem dX0_begin_18 : decode cX0_begin 18 = .ok (.putfield 18, 3) := by decide +kernel
theorem dX0_begin_21 : decode cX0_begin 21 = .ok (.aload_n 0, 1) := by decide +kernel
theorem dX0_begin_22 : decode cX0_begin 22 = .ok (.iconst 0, 1) := by decide +kernel
theorem dX0_begin_23 : decode cX0_begin 23 = .ok (.putfield 21, 3) := by decide +kernel
theorem dX0_begin_26 : decode cX0_begin 26 = .ok (.return_, 1) := by decide +kernel
theorem dX0_copy_0 : decode cX0_copy 0 = .ok (.aload_n 0, 1) := by decide +kernel
theorem dX0_copy_1 : decode cX0_copy 1 = .ok (.aload_n 1, 1) := by decide +kernel
theorem dX0_copy_2 : decode cX0_copy 2 = .ok (.getfield 9, 3) := by decide +kernel
theorem dX0_copy_5 : decode cX0_copy 5 = .ok (.putfield 9, 3) := by decide +kernel
theorem dX0_copy_8 : decode cX0_copy 8 = .ok (.aload_n 0, 1) := by decide +kernel
theorem dX0_copy_9 : decode cX0_copy 9 = .ok (.aload_n 1, 1) := by decide +kernel
theorem dX0_copy_10 : decode cX0_copy 10 = .ok (.getfield 15, 3) := by decide +kernel
theorem dX0_copy_13 : decode cX0_copy 13 = .ok (.putfield 15, 3) := by decide +kernel
theorem dX0_copy_16 : decode cX0_copy 16 = .ok (.aload_n 0, 1) := by decide +kernel
theorem dX0_copy_17 : decode cX0_copy 17 = .ok (.aload_n 1, 1) := by decide +kernel
theorem dX0_copy_18 : decode cX0_copy 18 = .ok (.getfield 18, 3) := by decide +kernel
theorem dX0_copy_21 : decode cX0_copy 21 = .ok (.putfield 18, 3) := by decide +kernel
theorem dX0_copy_24 : decode cX0_copy 24 = .ok (.aload_n 0, 1) := by decide +kernel
theorem dX0_copy_25 : decode cX0_copy 25 = .ok (.aload_n 1, 1) := by decide +kernel
theorem dX0_copy_26 : decode cX0_copy 26 = .ok (.getfield 21, 3) := by decide +kernel
theorem dX0_copy_29 : decode cX0_copy 29 = .ok (.putfield 21, 3) := by decide +kernel
theorem dX0_copy_32 : decode cX0_copy 32 = .ok (.return_, 1) := by decide +kernel
theorem dX0_isForbiddenAt_0 : decode cX0_isForbiddenAt 0 = .ok (.aload_n 0, 1) := by decide +kernel
theorem dX0_isForbiddenAt_1 : decode cX0_isForbiddenAt 1 = .ok (.getfield 9, 3) := by decide +kernel
theorem dX0_isForbiddenAt_4 : decode cX0_isForbiddenAt 4 = .ok (.iconst 4, 1) := by decide +kernel
theorem dX0_isForbiddenAt_5 : decode cX0_isForbiddenAt 5 = .ok (.if_icmp .ne 9, 3) := by decide +kernel
theorem dX0_isForbiddenAt_8 : decode cX0_isForbiddenAt 8 = .ok (.iload_n 1, 1) := by decide +kernel
theorem dX0_isForbiddenAt_9 : decode cX0_isForbiddenAt 9 = .ok (.bipush 8, 2) := by decide +kernel
theorem dX0_isForbiddenAt_11 : decode cX0_isForbiddenAt 11 = .ok (.if_icmp .ge 19, 3) := by decide +kernel
theorem dX0_isForbiddenAt_14 : decode cX0_isForbiddenAt 14 = .ok (.aload_n 0, 1) := by decide +kernel
theorem dX0_isForbiddenAt_15 : decode cX0_isForbiddenAt 15 = .ok (.getfield 9, 3) := by decide +kernel
theorem dX0_isForbiddenAt_18 : decode cX0_isForbiddenAt 18 = .ok (.bipush 6, 2) := by decide +kernel
theorem dX0_isForbiddenAt_20 : decode cX0_isForbiddenAt 20 = .ok (.if_icmp .ne 14, 3) := by decide +kernel
theorem dX0_isForbiddenAt_23 : decode cX0_isForbiddenAt 23 = .ok (.aload_n 0, 1) := by decide +kernel
theorem dX0_isForbiddenAt_24 : decode cX0_isForbiddenAt 24 = .ok (.getfield 15, 3) := by decide +kernel
theorem dX0_isForbiddenAt_27 : decode cX0_isForbiddenAt 27 = .ok (.ifCond .ne 7, 3) := by decide +kernel
theorem dX0_isForbiddenAt_30 : decode cX0_isForbiddenAt 30 = .ok (.iconst 1, 1) := by decide +kernel
theorem dX0_isForbiddenAt_31 : decode cX0_isForbiddenAt 31 = .ok (.goto 4, 3) := by decide +kernel
theorem dX0_isForbiddenAt_34 : decode cX0_isForbiddenAt 34 = .ok (.iconst 0, 1) := by decide +kernel
theorem dX0_isForbiddenAt_35 : decode cX0_isForbiddenAt 35 = .ok (.ireturn, 1) := by decide +kernel
theorem dX1_init_0 : decode cX1_init 0 = .ok (.aload_n 0, 1) := by decide +kernel
theorem dX1_init_1 : decode cX1_init 1 = .ok (.invokespecial 3, 3) := by decide +kernel
theorem dX1_init_4 : decode cX1_init 4 = .ok (.aload_n 0, 1) := by decide +kernel
theorem dX1_init_5 : decode cX1_init 5 = .ok (.iconst 5, 1) := by decide +kernel
theorem dX1_init_6 : decode cX1_init 6 = .ok (.anewarray 9, 3) := by decide +kernel
theorem dX1_init_9 : decode cX1_init 9 = .ok (.putfield 11, 3) := by decide +kernel
theorem dX1_init_12 : decode cX1_init 12 = .ok (.aload_n 0, 1) := by decide +kernel
theorem dX1_init_13 : decode cX1_init 13 = .ok (.iconst 4, 1) := by decide +kernel
theorem dX1_init_14 : decode cX1_init 14 = .ok (.anewarray 17, 3) := by decide +kernel
theorem dX1_init_17 : decode cX1_init 17 = .ok (.putfield 19, 3) := by decide +kernel
theorem dX1_init_20 : decode cX1_init 20 = .ok (.aload_n 0, 1) := by decide +kernel
theorem dX1_init_21 : decode cX1_init 21 = .ok (.bipush 10, 2) := by decide +kernel
theorem dX1_init_23 : decode cX1_init 23 = .ok (.anewarray 23, 3) := by decide +kernel
theorem dX1_init_26 : decode cX1_init 26 = .ok (.putfield 25, 3) := by decide +kernel
theorem dX1_init_29 : decode cX1_init 29 = .ok (.iconst 0, 1) := by decide +kernel
theorem dX1_init_30 : decode cX1_init 30 = .ok (.istore_n 1, 1) := by decide +kernel
theorem dX1_init_31 : decode cX1_init 31 = .ok (.iload_n 1, 1) := by decide +kernel
theorem dX1_init_32 : decode cX1_init 32 = .ok (.iconst 5, 1) := by decide +kernel
theorem dX1_init_33 : decode cX1_init 33 = .ok (.if_icmp .ge 22, 3) := by decide +kernel
theorem dX1_init_36 : decode cX1_init 36 = .ok (.aload_n 0, 1) := by decide +kernel
theorem dX1_init_37 : decode cX1_init 37 = .ok (.getfield 11, 3) := by decide +kernel
theorem dX1_init_40 : decode cX1_init 40 = .ok (.iload_n 1, 1) := by decide +kernel
theorem dX1_init_41 : decode cX1_init 41 = .ok (.new 9, 3) := by decide +kernel
theorem dX1_init_44 : decode cX1_init 44 = .ok (.dup, 1) := by decide +kernel
theorem dX1_init_45 : decode cX1_init 45 = .ok (.invokespecial 29, 3) := by decide +kernel
theorem dX1_init_48 : decode cX1_init 48 = .ok (.aastore, 1) := by decide +kernel
theorem dX1_init_49 : decode cX1_init 49 = .ok (.iinc 1 1, 3) := by decide +kernel
theorem dX1_init_52 : decode cX1_init 52 = .ok (.goto (-21), 3) := by decide +kernel
theorem dX1_init_55 : decode cX1_init 55 = .ok (.iconst 0, 1) := by decide +kernel
theorem dX1_init_56 : decode cX1_init 56 = .ok (.istore_n 1, 1) := by decide +kernel
theorem dX1_init_57 : decode cX1_init 57 = .ok (.iload_n 1, 1) := by decide +kernel
theorem dX1_init_58 : decode cX1_init 58 = .ok (.iconst 4, 1) := by decide +kernel
theorem dX1_init_59 : decode cX1_init 59 = .ok (.if_icmp .ge 22, 3) := by decide +kernel
theorem dX1_init_62 : decode cX1_init 62 = .ok (.aload_n 0, 1) := by decide +kernel
theorem dX1_init_63 : decode cX1_init 63 = .ok (.getfield 19, 3) := by decide +kernel
theorem dX1_init_66 : decode cX1_init 66 = .ok (.iload_n 1, 1) := by decide +kernel
theorem dX1_init_67 : decode cX1_init 67 = .ok (.new 17, 3) := by decide +kernel
theorem dX1_init_70 : decode cX1_init 70 = .ok (.dup, 1) := by decide +kernel
theorem dX1_init_71 : decode cX1_init 71 = .ok (.invokespecial 30, 3) := by decide +kernel
theorem dX1_init_74 : decode cX1_init 74 = .ok (.aastore, 1) := by decide +kernel
theorem dX1_init_75 : decode cX1_init 75 = .ok (.iinc 1 1, 3) := by decide +kernel
theorem dX1_init_78 : decode cX1_init 78 = .ok (.goto (-21), 3) := by decide +kernel
theorem dX1_init_81 : decode cX1_init 81 = .ok (.iconst 0, 1) := by decide +kernel
theorem dX1_init_82 : decode cX1_init 82 = .ok (.istore_n 1, 1) := by decide +kernel
theorem dX1_init_83 : decode cX1_init 83 = .ok (.iload_n 1, 1) := by decide +kernel
theorem dX1_init_84 : decode cX1_init 84 = .ok (.bipush 10, 2) := by decide +kernel
theorem dX1_init_86 : decode cX1_init 86 = .ok (.if_icmp .ge 22, 3) := by decide +kernel
theorem dX1_init_89 : decode cX1_init 89 = .ok (.aload_n 0, 1) := by decide +kernel
theorem dX1_init_90 : decode cX1_init 90 = .ok (.getfield 25, 3) := by decide +kernel
theorem dX1_init_93 : decode cX1_init 93 = .ok (.iload_n 1, 1) := by decide +kernel
theorem dX1_init_94 : decode cX1_init 94 = .ok (.new 23, 3) := by decide +kernel
theorem dX1_init_97 : decode cX1_init 97 = .ok (.dup, 1) := by decide +kernel
theorem dX1_init_98 : decode cX1_init 98 = .ok (.invokespecial 31, 3) := by decide +kernel
theorem dX1_init_101 : decode cX1_init 101 = .ok (.aastore, 1) := by decide +kernel
theorem dX1_init_102 : decode cX1_init 102 = .ok (.iinc 1 1, 3) := by decide +kernel
theorem dX1_init_105 : decode cX1_init 105 = .ok (.goto (-22), 3) := by decide +kernel
theorem dX1_init_108 : decode cX1_init 108 = .ok (.return_, 1) := by decide +kernel
theorem dX1_copy_0 : decode cX1_copy 0 = .ok (.aload_n 0, 1) := by decide +kernel
theorem dX1_copy_1 : decode cX1_copy 1 = .ok (.aload_n 1, 1) := by decide +kernel
theorem dX1_copy_2 : decode cX1_copy 2 = .ok (.getfield 32, 3) := by decide +kernel
theorem dX1_copy_5 : decode cX1_copy 5 = .ok (.putfield 32, 3) := by decide +kernel
theorem dX1_copy_8 : decode cX1_copy 8 = .ok (.aload_n 0, 1) := by decide +kernel
theorem dX1_copy_9 : decode cX1_copy 9 = .ok (.aload_n 1, 1) := by decide +kernel
theorem dX1_copy_10 : decode cX1_copy 10 = .ok (.getfield 36, 3) := by decide +kernel
theorem dX1_copy_13 : decode cX1_copy 13 = .ok (.putfield 36, 3) := by decide +kernel
theorem dX1_copy_16 : decode cX1_copy 16 = .ok (.aload_n 0, 1) := by decide +kernel
theorem dX1_copy_17 : decode cX1_copy 17 = .ok (.aload_n 1, 1) := by decide +kernel
theorem dX1_copy_18 : decode cX1_copy 18 = .ok (.getfield 39, 3) := by decide +kernel
theorem dX1_copy_21 : decode cX1_copy 21 = .ok (.putfield 39, 3) := by decide +kernel
theorem dX1_copy_24 : decode cX1_copy 24 = .ok (.aload_n 0, 1) := by decide +kernel
theorem dX1_copy_25 : decode cX1_copy 25 = .ok (.aload_n 1, 1) := by decide +kernel
theorem dX1_copy_26 : decode cX1_copy 26 = .ok (.getfield 42, 3) := by decide +kernel
theorem dX1_copy_29 : decode cX1_copy 29 = .ok (.putfield 42, 3) := by decide +kernel
theorem dX1_copy_32 : decode cX1_copy 32 = .ok (.iconst 0, 1) := by decide +kernel
theorem dX1_copy_33 : decode cX1_copy 33 = .ok (.istore_n 2, 1) := by decide +kernel
theorem dX1_copy_34 : decode cX1_copy 34 = .ok (.iload_n 2, 1) := by decide +kernel
theorem dX1_copy_35 : decode cX1_copy 35 = .ok (.aload_n 0, 1) := by decide +kernel
theorem dX1_copy_36 : decode cX1_copy 36 = .ok (.getfield 32, 3) := by decide +kernel
theorem dX1_copy_39 : decode cX1_copy 39 = .ok (.if_icmp .ge 24, 3) := by decide +kernel
theorem dX1_copy_42 : decode cX1_copy 42 = .ok (.aload_n 0, 1) := by decide +kernel
theorem dX1_copy_43 : decode cX1_copy 43 = .ok (.getfield 11, 3) := by decide +kernel
theorem dX1_copy_46 : decode cX1_copy 46 = .ok (.iload_n 2, 1) := by decide +kernel
theorem dX1_copy_47 : decode cX1_copy 47 = .ok (.aaload, 1) := by decide +kernel
theorem dX1_copy_48 : decode cX1_copy 48 = .ok (.aload_n 1, 1) := by decide +kernel
theorem dX1_copy_49 : decode cX1_copy 49 = .ok (.getfield 11, 3) := by decide +kernel
theorem dX1_copy_52 : decode cX1_copy 52 = .ok (.iload_n 2, 1) := by decide +kernel
theorem dX1_copy_53 : decode cX1_copy 53 = .ok (.aaload, 1) := by decide +kernel
theorem dX1_copy_54 : decode cX1_copy 54 = .ok (.invokevirtual 45, 3) := by decide +kernel
theorem dX1_copy_57 : decode cX1_copy 57 = .ok (.iinc 2 1, 3) := by decide +kernel
theorem dX1_copy_60 : decode cX1_copy 60 = .ok (.goto (-26), 3) := by decide +kernel
theorem dX1_copy_63 : decode cX1_copy 63 = .ok (.iconst 0, 1) := by decide +kernel
theorem dX1_copy_64 : decode cX1_copy 64 = .ok (.istore_n 2, 1) := by decide +kernel
theorem dX1_copy_65 : decode cX1_copy 65 = .ok (.iload_n 2, 1) := by decide +kernel
theorem dX1_copy_66 : decode cX1_copy 66 = .ok (.aload_n 0, 1) := by decide +kernel
theorem dX1_copy_67 : decode cX1_copy 67 = .ok (.getfield 36, 3) := by decide +kernel
theorem dX1_copy_70 : decode cX1_copy 70 = .ok (.if_icmp .ge 24, 3) := by decide +kernel
theorem dX1_copy_73 : decode cX1_copy 73 = .ok (.aload_n 0, 1) := by decide +kernel
theorem dX1_copy_74 : decode cX1_copy 74 = .ok (.getfield 19, 3) := by decide +kernel
theorem dX1_copy_77 : decode cX1_copy 77 = .ok (.iload_n 2, 1) := by decide +kernel
theorem dX1_copy_78 : decode cX1_copy 78 = .ok (.aaload, 1) := by decide +kernel
theorem dX1_copy_79 : decode cX1_copy 79 = .ok (.aload_n 1, 1) := by decide +kernel
theorem dX1_copy_80 : decode cX1_copy 80 = .ok (.getfield 19, 3) := by decide +kernel
theorem dX1_copy_83 : decode cX1_copy 83 = .ok (.iload_n 2, 1) := by decide +kernel
theorem dX1_copy_84 : decode cX1_copy 84 = .ok (.aaload, 1) := by decide +kernel
theorem dX1_copy_85 : decode cX1_copy 85 = .ok (.invokevirtual 49, 3) := by decide +kernel
theorem dX1_copy_88 : decode cX1_copy 88 = .ok (.iinc 2 1, 3) := by decide +kernel
theorem dX1_copy_91 : decode cX1_copy 91 = .ok (.goto (-26), 3) := by decide +kernel
theorem dX1_copy_94 : decode cX1_copy 94 = .ok (.iconst 0, 1) := by decide +kernel
theorem dX1_copy_95 : decode cX1_copy 95 = .ok (.istore_n 2, 1) := by decide +kernel
theorem dX1_copy_96 : decode cX1_copy 96 = .ok (.iload_n 2, 1) := by decide +kernel
theorem dX1_copy_97 : decode cX1_copy 97 = .ok (.aload_n 0, 1) := by decide +kernel
theorem dX1_copy_98 : decode cX1_copy 98 = .ok (.getfield 39, 3) := by decide +kernel
theorem dX1_copy_101 : decode cX1_copy 101 = .ok (.if_icmp .ge 24, 3) := by decide +kernel
theorem dX1_copy_104 : decode cX1_copy 104 = .ok (.aload_n 0, 1) := by decide +kernel
theorem dX1_copy_105 : decode cX1_copy 105 = .ok (.getfield 25, 3) := by decide +kernel
theorem dX1_copy_108 : decode cX1_copy 108 = .ok (.iload_n 2, 1) := by decide +kernel
theorem dX1_copy_109 : decode cX1_copy 109 = .ok (.aaload, 1) := by decide +kernel
theorem dX1_copy_110 : decode cX1_copy 110 = .ok (.aload_n 1, 1) := by decide +kernel
theorem dX1_copy_111 : decode cX1_copy 111 = .ok (.getfield 25, 3) := by decide +kernel
theorem dX1_copy_114 : decode cX1_copy 114 = .ok (.iload_n 2, 1) := by decide +kernel
theorem dX1_copy_115 : decode cX1_copy 115 = .ok (.aaload, 1) := by decide +kernel
theorem dX1_copy_116 : decode cX1_copy 116 = .ok (.invokevirtual 52, 3) := by decide +kernel
theorem dX1_copy_119 : decode cX1_copy 119 = .ok (.iinc 2 1, 3) := by decide +kernel
theorem dX1_copy_122 : decode cX1_copy 122 = .ok (.goto (-26), 3) := by decide +kernel
theorem dX1_copy_125 : decode cX1_copy 125 = .ok (.return_, 1) := by decide +kernel
theorem dX1_hasAsh_0 : decode cX1_hasAsh 0 = .ok (.iload_n 1, 1) := by decide +kernel
theorem dX1_hasAsh_1 : decode cX1_hasAsh 1 = .ok (.iconst 0, 1) := by decide +kernel
theorem dX1_hasAsh_2 : decode cX1_hasAsh 2 = .ok (.aload_n 0, 1) := by decide +kernel
theorem dX1_hasAsh_3 : decode cX1_hasAsh 3 = .ok (.getfield 32, 3) := by decide +kernel
theorem dX1_hasAsh_6 : decode cX1_hasAsh 6 = .ok (.iconst 1, 1) := by decide +kernel
theorem dX1_hasAsh_7 : decode cX1_hasAsh 7 = .ok (.isub, 1) := by decide +kernel
theorem dX1_hasAsh_8 : decode cX1_hasAsh 8 = .ok (.invokestatic 55, 3) := by decide +kernel
theorem dX1_hasAsh_11 : decode cX1_hasAsh 11 = .ok (.ireturn, 1) := by decide +kernel
theorem dX1_hasPotter_0 : decode cX1_hasPotter 0 = .ok (.iload_n 1, 1) := by decide +kernel
theorem dX1_hasPotter_1 : decode cX1_hasPotter 1 = .ok (.iconst 0, 1) := by decide +kernel
theorem dX1_hasPotter_2 : decode cX1_hasPotter 2 = .ok (.aload_n 0, 1) := by decide +kernel
theorem dX1_hasPotter_3 : decode cX1_hasPotter 3 = .ok (.getfield 36, 3) := by decide +kernel
theorem dX1_hasPotter_6 : decode cX1_hasPotter 6 = .ok (.iconst 1, 1) := by decide +kernel
theorem dX1_hasPotter_7 : decode cX1_hasPotter 7 = .ok (.isub, 1) := by decide +kernel
theorem dX1_hasPotter_8 : decode cX1_hasPotter 8 = .ok (.invokestatic 55, 3) := by decide +kernel
theorem dX1_hasPotter_11 : decode cX1_hasPotter 11 = .ok (.ireturn, 1) := by decide +kernel
theorem dX1_hasLoan_0 : decode cX1_hasLoan 0 = .ok (.iload_n 1, 1) := by decide +kernel
theorem dX1_hasLoan_1 : decode cX1_hasLoan 1 = .ok (.iconst 0, 1) := by decide +kernel
theorem dX1_hasLoan_2 : decode cX1_hasLoan 2 = .ok (.aload_n 0, 1) := by decide +kernel
theorem dX1_hasLoan_3 : decode cX1_hasLoan 3 = .ok (.getfield 39, 3) := by decide +kernel
theorem dX1_hasLoan_6 : decode cX1_hasLoan 6 = .ok (.iconst 1, 1) := by decide +kernel
theorem dX1_hasLoan_7 : decode cX1_hasLoan 7 = .ok (.isub, 1) := by decide +kernel
theorem dX1_hasLoan_8 : decode cX1_hasLoan 8 = .ok (.invokestatic 55, 3) := by decide +kernel
theorem dX1_hasLoan_11 : decode cX1_hasLoan 11 = .ok (.ireturn, 1) := by decide +kernel
theorem dX1_bushelsOfAll_0 : decode cX1_bushelsOfAll 0 = .ok (.iconst 0, 1) := by decide +kernel
theorem dX1_bushelsOfAll_1 : decode cX1_bushelsOfAll 1 = .ok (.istore_n 2, 1) := by decide +kernel
theorem dX1_bushelsOfAll_2 : decode cX1_bushelsOfAll 2 = .ok (.iconst 0, 1) := by decide +kernel
theorem dX1_bushelsOfAll_3 : decode cX1_bushelsOfAll 3 = .ok (.istore_n 3, 1) := by decide +kernel
theorem dX1_bushelsOfAll_4 : decode cX1_bushelsOfAll 4 = .ok (.iload_n 3, 1) := by decide +kernel
theorem dX1_bushelsOfAll_5 : decode cX1_bushelsOfAll 5 = .ok (.aload_n 0, 1) := by decide +kernel
theorem dX1_bushelsOfAll_6 : decode cX1_bushelsOfAll 6 = .ok (.getfield 36, 3) := by decide +kernel
theorem dX1_bushelsOfAll_9 : decode cX1_bushelsOfAll 9 = .ok (.if_icmp .ge 23, 3) := by decide +kernel
theorem dX1_bushelsOfAll_12 : decode cX1_bushelsOfAll 12 = .ok (.iload_n 2, 1) := by decide +kernel
theorem dX1_bushelsOfAll_13 : decode cX1_bushelsOfAll 13 = .ok (.aload_n 0, 1) := by decide +kernel
theorem dX1_bushelsOfAll_14 : decode cX1_bushelsOfAll 14 = .ok (.getfield 19, 3) := by decide +kernel
theorem dX1_bushelsOfAll_17 : decode cX1_bushelsOfAll 17 = .ok (.iload_n 3, 1) := by decide +kernel
theorem dX1_bushelsOfAll_18 : decode cX1_bushelsOfAll 18 = .ok (.aaload, 1) := by decide +kernel
theorem dX1_bushelsOfAll_19 : decode cX1_bushelsOfAll 19 = .ok (.getfield 59, 3) := by decide +kernel
theorem dX1_bushelsOfAll_22 : decode cX1_bushelsOfAll 22 = .ok (.iload_n 1, 1) := by decide +kernel
theorem dX1_bushelsOfAll_23 : decode cX1_bushelsOfAll 23 = .ok (.iaload, 1) := by decide +kernel
theorem dX1_bushelsOfAll_24 : decode cX1_bushelsOfAll 24 = .ok (.iadd, 1) := by decide +kernel
theorem dX1_bushelsOfAll_25 : decode cX1_bushelsOfAll 25 = .ok (.istore_n 2, 1) := by decide +kernel
theorem dX1_bushelsOfAll_26 : decode cX1_bushelsOfAll 26 = .ok (.iinc 3 1, 3) := by decide +kernel
theorem dX1_bushelsOfAll_29 : decode cX1_bushelsOfAll 29 = .ok (.goto (-25), 3) := by decide +kernel
theorem dX1_bushelsOfAll_32 : decode cX1_bushelsOfAll 32 = .ok (.iload_n 2, 1) := by decide +kernel
theorem dX1_bushelsOfAll_33 : decode cX1_bushelsOfAll 33 = .ok (.ireturn, 1) := by decide +kernel
theorem dX1_potsOfAll_0 : decode cX1_potsOfAll 0 = .ok (.iconst 0, 1) := by decide +kernel
theorem dX1_potsOfAll_1 : decode cX1_potsOfAll 1 = .ok (.istore_n 1, 1) := by decide +kernel
theorem dX1_potsOfAll_2 : decode cX1_potsOfAll 2 = .ok (.iconst 0, 1) := by decide +kernel
theorem dX1_potsOfAll_3 : decode cX1_potsOfAll 3 = .ok (.istore_n 2, 1) := by decide +kernel
theorem dX1_potsOfAll_4 : decode cX1_potsOfAll 4 = .ok (.iload_n 2, 1) := by decide +kernel
theorem dX1_potsOfAll_5 : decode cX1_potsOfAll 5 = .ok (.aload_n 0, 1) := by decide +kernel
theorem dX1_potsOfAll_6 : decode cX1_potsOfAll 6 = .ok (.getfield 36, 3) := by decide +kernel
theorem dX1_potsOfAll_9 : decode cX1_potsOfAll 9 = .ok (.if_icmp .ge 21, 3) := by decide +kernel
theorem dX1_potsOfAll_12 : decode cX1_potsOfAll 12 = .ok (.iload_n 1, 1) := by decide +kernel
theorem dX1_potsOfAll_13 : decode cX1_potsOfAll 13 = .ok (.aload_n 0, 1) := by decide +kernel
theorem dX1_potsOfAll_14 : decode cX1_potsOfAll 14 = .ok (.getfield 19, 3) := by decide +kernel
theorem dX1_potsOfAll_17 : decode cX1_potsOfAll 17 = .ok (.iload_n 2, 1) := by decide +kernel
theorem dX1_potsOfAll_18 : decode cX1_potsOfAll 18 = .ok (.aaload, 1) := by decide +kernel
theorem dX1_potsOfAll_19 : decode cX1_potsOfAll 19 = .ok (.getfield 63, 3) := by decide +kernel
theorem dX1_potsOfAll_22 : decode cX1_potsOfAll 22 = .ok (.iadd, 1) := by decide +kernel
theorem dX1_potsOfAll_23 : decode cX1_potsOfAll 23 = .ok (.istore_n 1, 1) := by decide +kernel
theorem dX1_potsOfAll_24 : decode cX1_potsOfAll 24 = .ok (.iinc 2 1, 3) := by decide +kernel
theorem dX1_potsOfAll_27 : decode cX1_potsOfAll 27 = .ok (.goto (-23), 3) := by decide +kernel
theorem dX1_potsOfAll_30 : decode cX1_potsOfAll 30 = .ok (.iload_n 1, 1) := by decide +kernel
theorem dX1_potsOfAll_31 : decode cX1_potsOfAll 31 = .ok (.ireturn, 1) := by decide +kernel
theorem dX1_brokenOfAll_0 : decode cX1_brokenOfAll 0 = .ok (.iconst 0, 1) := by decide +kernel
theorem dX1_brokenOfAll_1 : decode cX1_brokenOfAll 1 = .ok (.istore_n 1, 1) := by decide +kernel
theorem dX1_brokenOfAll_2 : decode cX1_brokenOfAll 2 = .ok (.iconst 0, 1) := by decide +kernel
theorem dX1_brokenOfAll_3 : decode cX1_brokenOfAll 3 = .ok (.istore_n 2, 1) := by decide +kernel
theorem dX1_brokenOfAll_4 : decode cX1_brokenOfAll 4 = .ok (.iload_n 2, 1) := by decide +kernel
theorem dX1_brokenOfAll_5 : decode cX1_brokenOfAll 5 = .ok (.aload_n 0, 1) := by decide +kernel
theorem dX1_brokenOfAll_6 : decode cX1_brokenOfAll 6 = .ok (.getfield 36, 3) := by decide +kernel
theorem dX1_brokenOfAll_9 : decode cX1_brokenOfAll 9 = .ok (.if_icmp .ge 21, 3) := by decide +kernel
theorem dX1_brokenOfAll_12 : decode cX1_brokenOfAll 12 = .ok (.iload_n 1, 1) := by decide +kernel
theorem dX1_brokenOfAll_13 : decode cX1_brokenOfAll 13 = .ok (.aload_n 0, 1) := by decide +kernel
theorem dX1_brokenOfAll_14 : decode cX1_brokenOfAll 14 = .ok (.getfield 19, 3) := by decide +kernel
theorem dX1_brokenOfAll_17 : decode cX1_brokenOfAll 17 = .ok (.iload_n 2, 1) := by decide +kernel
theorem dX1_brokenOfAll_18 : decode cX1_brokenOfAll 18 = .ok (.aaload, 1) := by decide +kernel
theorem dX1_brokenOfAll_19 : decode cX1_brokenOfAll 19 = .ok (.getfield 66, 3) := by decide +kernel
theorem dX1_brokenOfAll_22 : decode cX1_brokenOfAll 22 = .ok (.iadd, 1) := by decide +kernel
theorem dX1_brokenOfAll_23 : decode cX1_brokenOfAll 23 = .ok (.istore_n 1, 1) := by decide +kernel
theorem dX1_brokenOfAll_24 : decode cX1_brokenOfAll 24 = .ok (.iinc 2 1, 3) := by decide +kernel
theorem dX1_brokenOfAll_27 : decode cX1_brokenOfAll 27 = .ok (.goto (-23), 3) := by decide +kernel
theorem dX1_brokenOfAll_30 : decode cX1_brokenOfAll 30 = .ok (.iload_n 1, 1) := by decide +kernel
theorem dX1_brokenOfAll_31 : decode cX1_brokenOfAll 31 = .ok (.ireturn, 1) := by decide +kernel
theorem dX1_loansHeldBy_0 : decode cX1_loansHeldBy 0 = .ok (.iconst 0, 1) := by decide +kernel
theorem dX1_loansHeldBy_1 : decode cX1_loansHeldBy 1 = .ok (.istore_n 2, 1) := by decide +kernel
theorem dX1_loansHeldBy_2 : decode cX1_loansHeldBy 2 = .ok (.iconst 0, 1) := by decide +kernel
theorem dX1_loansHeldBy_3 : decode cX1_loansHeldBy 3 = .ok (.istore_n 3, 1) := by decide +kernel
theorem dX1_loansHeldBy_4 : decode cX1_loansHeldBy 4 = .ok (.iload_n 3, 1) := by decide +kernel
theorem dX1_loansHeldBy_5 : decode cX1_loansHeldBy 5 = .ok (.aload_n 0, 1) := by decide +kernel
theorem dX1_loansHeldBy_6 : decode cX1_loansHeldBy 6 = .ok (.getfield 39, 3) := by decide +kernel
theorem dX1_loansHeldBy_9 : decode cX1_loansHeldBy 9 = .ok (.if_icmp .ge 30, 3) := by decide +kernel
theorem dX1_loansHeldBy_12 : decode cX1_loansHeldBy 12 = .ok (.iload_n 2, 1) := by decide +kernel
theorem dX1_loansHeldBy_13 : decode cX1_loansHeldBy 13 = .ok (.aload_n 0, 1) := by decide +kernel
theorem dX1_loansHeldBy_14 : decode cX1_loansHeldBy 14 = .ok (.getfield 25, 3) := by decide +kernel
theorem dX1_loansHeldBy_17 : decode cX1_loansHeldBy 17 = .ok (.iload_n 3, 1) := by decide +kernel
theorem dX1_loansHeldBy_18 : decode cX1_loansHeldBy 18 = .ok (.aaload, 1) := by decide +kernel
theorem dX1_loansHeldBy_19 : decode cX1_loansHeldBy 19 = .ok (.getfield 69, 3) := by decide +kernel
theorem dX1_loansHeldBy_22 : decode cX1_loansHeldBy 22 = .ok (.iload_n 1, 1) := by decide +kernel
theorem dX1_loansHeldBy_23 : decode cX1_loansHeldBy 23 = .ok (.if_icmp .ne 7, 3) := by decide +kernel
theorem dX1_loansHeldBy_26 : decode cX1_loansHeldBy 26 = .ok (.iconst 1, 1) := by decide +kernel
theorem dX1_loansHeldBy_27 : decode cX1_loansHeldBy 27 = .ok (.goto 4, 3) := by decide +kernel
theorem dX1_loansHeldBy_30 : decode cX1_loansHeldBy 30 = .ok (.iconst 0, 1) := by decide +kernel
theorem dX1_loansHeldBy_31 : decode cX1_loansHeldBy 31 = .ok (.iadd, 1) := by decide +kernel
theorem dX1_loansHeldBy_32 : decode cX1_loansHeldBy 32 = .ok (.istore_n 2, 1) := by decide +kernel
theorem dX1_loansHeldBy_33 : decode cX1_loansHeldBy 33 = .ok (.iinc 3 1, 3) := by decide +kernel
theorem dX1_loansHeldBy_36 : decode cX1_loansHeldBy 36 = .ok (.goto (-32), 3) := by decide +kernel
theorem dX1_loansHeldBy_39 : decode cX1_loansHeldBy 39 = .ok (.iload_n 2, 1) := by decide +kernel
theorem dX1_loansHeldBy_40 : decode cX1_loansHeldBy 40 = .ok (.ireturn, 1) := by decide +kernel
theorem dX1_owedTo_0 : decode cX1_owedTo 0 = .ok (.iconst 0, 1) := by decide +kernel
theorem dX1_owedTo_1 : decode cX1_owedTo 1 = .ok (.istore_n 2, 1) := by decide +kernel
theorem dX1_owedTo_2 : decode cX1_owedTo 2 = .ok (.iconst 0, 1) := by decide +kernel
theorem dX1_owedTo_3 : decode cX1_owedTo 3 = .ok (.istore_n 3, 1) := by decide +kernel
theorem dX1_owedTo_4 : decode cX1_owedTo 4 = .ok (.iload_n 3, 1) := by decide +kernel
theorem dX1_owedTo_5 : decode cX1_owedTo 5 = .ok (.aload_n 0, 1) := by decide +kernel
theorem dX1_owedTo_6 : decode cX1_owedTo 6 = .ok (.getfield 39, 3) := by decide +kernel
theorem dX1_owedTo_9 : decode cX1_owedTo 9 = .ok (.if_icmp .ge 38, 3) := by decide +kernel
theorem dX1_owedTo_12 : decode cX1_owedTo 12 = .ok (.iload_n 2, 1) := by decide +kernel
theorem dX1_owedTo_13 : decode cX1_owedTo 13 = .ok (.aload_n 0, 1) := by decide +kernel
theorem dX1_owedTo_14 : decode cX1_owedTo 14 = .ok (.getfield 25, 3) := by decide +kernel
theorem dX1_owedTo_17 : decode cX1_owedTo 17 = .ok (.iload_n 3, 1) := by decide +kernel
theorem dX1_owedTo_18 : decode cX1_owedTo 18 = .ok (.aaload, 1) := by decide +kernel
theorem dX1_owedTo_19 : decode cX1_owedTo 19 = .ok (.getfield 72, 3) := by decide +kernel
theorem dX1_owedTo_22 : decode cX1_owedTo 22 = .ok (.iload_n 1, 1) := by decide +kernel
theorem dX1_owedTo_23 : decode cX1_owedTo 23 = .ok (.if_icmp .ne 15, 3) := by decide +kernel
theorem dX1_owedTo_26 : decode cX1_owedTo 26 = .ok (.aload_n 0, 1) := by decide +kernel
theorem dX1_owedTo_27 : decode cX1_owedTo 27 = .ok (.getfield 25, 3) := by decide +kernel
theorem dX1_owedTo_30 : decode cX1_owedTo 30 = .ok (.iload_n 3, 1) := by decide +kernel
theorem dX1_owedTo_31 : decode cX1_owedTo 31 = .ok (.aaload, 1) := by decide +kernel
theorem dX1_owedTo_32 : decode cX1_owedTo 32 = .ok (.getfield 75, 3) := by decide +kernel
theorem dX1_owedTo_35 : decode cX1_owedTo 35 = .ok (.goto 4, 3) := by decide +kernel
theorem dX1_owedTo_38 : decode cX1_owedTo 38 = .ok (.iconst 0, 1) := by decide +kernel
theorem dX1_owedTo_39 : decode cX1_owedTo 39 = .ok (.iadd, 1) := by decide +kernel
theorem dX1_owedTo_40 : decode cX1_owedTo 40 = .ok (.istore_n 2, 1) := by decide +kernel
theorem dX1_owedTo_41 : decode cX1_owedTo 41 = .ok (.iinc 3 1, 3) := by decide +kernel
theorem dX1_owedTo_44 : decode cX1_owedTo 44 = .ok (.goto (-40), 3) := by decide +kernel
theorem dX1_owedTo_47 : decode cX1_owedTo 47 = .ok (.iload_n 2, 1) := by decide +kernel
theorem dX1_owedTo_48 : decode cX1_owedTo 48 = .ok (.ireturn, 1) := by decide +kernel
theorem dX1_lentBetween_0 : decode cX1_lentBetween 0 = .ok (.iconst 0, 1) := by decide +kernel
theorem dX1_lentBetween_1 : decode cX1_lentBetween 1 = .ok (.istore 4, 2) := by decide +kernel
theorem dX1_lentBetween_3 : decode cX1_lentBetween 3 = .ok (.iconst 0, 1) := by decide +kernel
theorem dX1_lentBetween_4 : decode cX1_lentBetween 4 = .ok (.istore 5, 2) := by decide +kernel
theorem dX1_lentBetween_6 : decode cX1_lentBetween 6 = .ok (.iload 5, 2) := by decide +kernel
theorem dX1_lentBetween_8 : decode cX1_lentBetween 8 = .ok (.aload_n 0, 1) := by decide +kernel
theorem dX1_lentBetween_9 : decode cX1_lentBetween 9 = .ok (.getfield 39, 3) := by decide +kernel
theorem dX1_lentBetween_12 : decode cX1_lentBetween 12 = .ok (.if_icmp .ge 59, 3) := by decide +kernel
theorem dX1_lentBetween_15 : decode cX1_lentBetween 15 = .ok (.aload_n 0, 1) := by decide +kernel
theorem dX1_lentBetween_16 : decode cX1_lentBetween 16 = .ok (.getfield 25, 3) := by decide +kernel
theorem dX1_lentBetween_19 : decode cX1_lentBetween 19 = .ok (.iload 5, 2) := by decide +kernel
theorem dX1_lentBetween_21 : decode cX1_lentBetween 21 = .ok (.aaload, 1) := by decide +kernel
theorem dX1_lentBetween_22 : decode cX1_lentBetween 22 = .ok (.astore 6, 2) := by decide +kernel
theorem dX1_lentBetween_24 : decode cX1_lentBetween 24 = .ok (.iload 4, 2) := by decide +kernel
theorem dX1_lentBetween_26 : decode cX1_lentBetween 26 = .ok (.aload 6, 2) := by decide +kernel
theorem dX1_lentBetween_28 : decode cX1_lentBetween 28 = .ok (.getfield 72, 3) := by decide +kernel
theorem dX1_lentBetween_31 : decode cX1_lentBetween 31 = .ok (.iload_n 1, 1) := by decide +kernel
theorem dX1_lentBetween_32 : decode cX1_lentBetween 32 = .ok (.if_icmp .ne 29, 3) := by decide +kernel
theorem dX1_lentBetween_35 : decode cX1_lentBetween 35 = .ok (.aload 6, 2) := by decide +kernel
theorem dX1_lentBetween_37 : decode cX1_lentBetween 37 = .ok (.getfield 69, 3) := by decide +kernel
theorem dX1_lentBetween_40 : decode cX1_lentBetween 40 = .ok (.iload_n 2, 1) := by decide +kernel
theorem dX1_lentBetween_41 : decode cX1_lentBetween 41 = .ok (.if_icmp .ne 20, 3) := by decide +kernel
theorem dX1_lentBetween_44 : decode cX1_lentBetween 44 = .ok (.aload 6, 2) := by decide +kernel
theorem dX1_lentBetween_46 : decode cX1_lentBetween 46 = .ok (.getfield 77, 3) := by decide +kernel
theorem dX1_lentBetween_49 : decode cX1_lentBetween 49 = .ok (.iload_n 3, 1) := by decide +kernel
theorem dX1_lentBetween_50 : decode cX1_lentBetween 50 = .ok (.if_icmp .ne 11, 3) := by decide +kernel
theorem dX1_lentBetween_53 : decode cX1_lentBetween 53 = .ok (.aload 6, 2) := by decide +kernel
theorem dX1_lentBetween_55 : decode cX1_lentBetween 55 = .ok (.getfield 75, 3) := by decide +kernel
theorem dX1_lentBetween_58 : decode cX1_lentBetween 58 = .ok (.goto 4, 3) := by decide +kernel
theorem dX1_lentBetween_61 : decode cX1_lentBetween 61 = .ok (.iconst 0, 1) := by decide +kernel
theorem dX1_lentBetween_62 : decode cX1_lentBetween 62 = .ok (.iadd, 1) := by decide +kernel
theorem dX1_lentBetween_63 : decode cX1_lentBetween 63 = .ok (.istore 4, 2) := by decide +kernel
theorem dX1_lentBetween_65 : decode cX1_lentBetween 65 = .ok (.iinc 5 1, 3) := by decide +kernel
theorem dX1_lentBetween_68 : decode cX1_lentBetween 68 = .ok (.goto (-62), 3) := by decide +kernel
theorem dX1_lentBetween_71 : decode cX1_lentBetween 71 = .ok (.iload 4, 2) := by decide +kernel
theorem dX1_lentBetween_73 : decode cX1_lentBetween 73 = .ok (.ireturn, 1) := by decide +kernel
theorem dX1_canLend_0 : decode cX1_canLend 0 = .ok (.aload_n 0, 1) := by decide +kernel
theorem dX1_canLend_1 : decode cX1_canLend 1 = .ok (.getfield 19, 3) := by decide +kernel
theorem dX1_canLend_4 : decode cX1_canLend 4 = .ok (.iload_n 1, 1) := by decide +kernel
theorem dX1_canLend_5 : decode cX1_canLend 5 = .ok (.aaload, 1) := by decide +kernel
theorem dX1_canLend_6 : decode cX1_canLend 6 = .ok (.getfield 59, 3) := by decide +kernel
theorem dX1_canLend_9 : decode cX1_canLend 9 = .ok (.iload_n 3, 1) := by decide +kernel
theorem dX1_canLend_10 : decode cX1_canLend 10 = .ok (.iaload, 1) := by decide +kernel
theorem dX1_canLend_11 : decode cX1_canLend 11 = .ok (.iload 4, 2) := by decide +kernel
theorem dX1_canLend_13 : decode cX1_canLend 13 = .ok (.if_icmp .lt 27, 3) := by decide +kernel
theorem dX1_canLend_16 : decode cX1_canLend 16 = .ok (.aload_n 0, 1) := by decide +kernel
theorem dX1_canLend_17 : decode cX1_canLend 17 = .ok (.getfield 19, 3) := by decide +kernel
theorem dX1_canLend_20 : decode cX1_canLend 20 = .ok (.iload_n 2, 1) := by decide +kernel
theorem dX1_canLend_21 : decode cX1_canLend 21 = .ok (.aaload, 1) := by decide +kernel
theorem dX1_canLend_22 : decode cX1_canLend 22 = .ok (.getfield 59, 3) := by decide +kernel
theorem dX1_canLend_25 : decode cX1_canLend 25 = .ok (.iload_n 3, 1) := by decide +kernel
theorem dX1_canLend_26 : decode cX1_canLend 26 = .ok (.iaload, 1) := by decide +kernel
theorem dX1_canLend_27 : decode cX1_canLend 27 = .ok (.iload 4, 2) := by decide +kernel
theorem dX1_canLend_29 : decode cX1_canLend 29 = .ok (.iadd, 1) := by decide +kernel
theorem dX1_canLend_30 : decode cX1_canLend 30 = .ok (.sipush 999, 3) := by decide +kernel
theorem dX1_canLend_33 : decode cX1_canLend 33 = .ok (.if_icmp .gt 7, 3) := by decide +kernel
theorem dX1_canLend_36 : decode cX1_canLend 36 = .ok (.iconst 1, 1) := by decide +kernel
theorem dX1_canLend_37 : decode cX1_canLend 37 = .ok (.goto 4, 3) := by decide +kernel
theorem dX1_canLend_40 : decode cX1_canLend 40 = .ok (.iconst 0, 1) := by decide +kernel
theorem dX1_canLend_41 : decode cX1_canLend 41 = .ok (.ireturn, 1) := by decide +kernel
theorem dX1_addLoan_0 : decode cX1_addLoan 0 = .ok (.aload_n 0, 1) := by decide +kernel
theorem dX1_addLoan_1 : decode cX1_addLoan 1 = .ok (.getfield 39, 3) := by decide +kernel
theorem dX1_addLoan_4 : decode cX1_addLoan 4 = .ok (.bipush 10, 2) := by decide +kernel
theorem dX1_addLoan_6 : decode cX1_addLoan 6 = .ok (.if_icmp .lt 4, 3) := by decide +kernel
theorem dX1_addLoan_9 : decode cX1_addLoan 9 = .ok (.return_, 1) := by decide +kernel
theorem dX1_addLoan_10 : decode cX1_addLoan 10 = .ok (.aload_n 0, 1) := by decide +kernel
theorem dX1_addLoan_11 : decode cX1_addLoan 11 = .ok (.getfield 25, 3) := by decide +kernel
theorem dX1_addLoan_14 : decode cX1_addLoan 14 = .ok (.aload_n 0, 1) := by decide +kernel
theorem dX1_addLoan_15 : decode cX1_addLoan 15 = .ok (.getfield 39, 3) := by decide +kernel
theorem dX1_addLoan_18 : decode cX1_addLoan 18 = .ok (.aaload, 1) := by decide +kernel
theorem dX1_addLoan_19 : decode cX1_addLoan 19 = .ok (.astore 6, 2) := by decide +kernel
theorem dX1_addLoan_21 : decode cX1_addLoan 21 = .ok (.aload 6, 2) := by decide +kernel
theorem dX1_addLoan_23 : decode cX1_addLoan 23 = .ok (.iload_n 1, 1) := by decide +kernel
theorem dX1_addLoan_24 : decode cX1_addLoan 24 = .ok (.putfield 72, 3) := by decide +kernel
theorem dX1_addLoan_27 : decode cX1_addLoan 27 = .ok (.aload 6, 2) := by decide +kernel
theorem dX1_addLoan_29 : decode cX1_addLoan 29 = .ok (.iload_n 2, 1) := by decide +kernel
theorem dX1_addLoan_30 : decode cX1_addLoan 30 = .ok (.putfield 69, 3) := by decide +kernel
theorem dX1_addLoan_33 : decode cX1_addLoan 33 = .ok (.aload 6, 2) := by decide +kernel
theorem dX1_addLoan_35 : decode cX1_addLoan 35 = .ok (.iload_n 3, 1) := by decide +kernel
theorem dX1_addLoan_36 : decode cX1_addLoan 36 = .ok (.putfield 77, 3) := by decide +kernel
theorem dX1_addLoan_39 : decode cX1_addLoan 39 = .ok (.aload 6, 2) := by decide +kernel
theorem dX1_addLoan_41 : decode cX1_addLoan 41 = .ok (.iload 4, 2) := by decide +kernel
theorem dX1_addLoan_43 : decode cX1_addLoan 43 = .ok (.putfield 75, 3) := by decide +kernel
theorem dX1_addLoan_46 : decode cX1_addLoan 46 = .ok (.aload 6, 2) := by decide +kernel
theorem dX1_addLoan_48 : decode cX1_addLoan 48 = .ok (.aload_n 0, 1) := by decide +kernel
theorem dX1_addLoan_49 : decode cX1_addLoan 49 = .ok (.getfield 42, 3) := by decide +kernel
theorem dX1_addLoan_52 : decode cX1_addLoan 52 = .ok (.iload 5, 2) := by decide +kernel
theorem dX1_addLoan_54 : decode cX1_addLoan 54 = .ok (.iadd, 1) := by decide +kernel
theorem dX1_addLoan_55 : decode cX1_addLoan 55 = .ok (.putfield 80, 3) := by decide +kernel
theorem dX1_addLoan_58 : decode cX1_addLoan 58 = .ok (.aload_n 0, 1) := by decide +kernel
theorem dX1_addLoan_59 : decode cX1_addLoan 59 = .ok (.dup, 1) := by decide +kernel
theorem dX1_addLoan_60 : decode cX1_addLoan 60 = .ok (.getfield 39, 3) := by decide +kernel
theorem dX1_addLoan_63 : decode cX1_addLoan 63 = .ok (.iconst 1, 1) := by decide +kernel
theorem dX1_addLoan_64 : decode cX1_addLoan 64 = .ok (.iadd, 1) := by decide +kernel
theorem dX1_addLoan_65 : decode cX1_addLoan 65 = .ok (.putfield 39, 3) := by decide +kernel
theorem dX1_addLoan_68 : decode cX1_addLoan 68 = .ok (.aload_n 0, 1) := by decide +kernel
theorem dX1_addLoan_69 : decode cX1_addLoan 69 = .ok (.getfield 19, 3) := by decide +kernel
theorem dX1_addLoan_72 : decode cX1_addLoan 72 = .ok (.iload_n 1, 1) := by decide +kernel
theorem dX1_addLoan_73 : decode cX1_addLoan 73 = .ok (.aaload, 1) := by decide +kernel
theorem dX1_addLoan_74 : decode cX1_addLoan 74 = .ok (.iload_n 3, 1) := by decide +kernel
theorem dX1_addLoan_75 : decode cX1_addLoan 75 = .ok (.iload 4, 2) := by decide +kernel
theorem dX1_addLoan_77 : decode cX1_addLoan 77 = .ok (.ineg, 1) := by decide +kernel
theorem dX1_addLoan_78 : decode cX1_addLoan 78 = .ok (.invokevirtual 83, 3) := by decide +kernel
theorem dX1_addLoan_81 : decode cX1_addLoan 81 = .ok (.aload_n 0, 1) := by decide +kernel
theorem dX1_addLoan_82 : decode cX1_addLoan 82 = .ok (.getfield 19, 3) := by decide +kernel
theorem dX1_addLoan_85 : decode cX1_addLoan 85 = .ok (.iload_n 2, 1) := by decide +kernel
theorem dX1_addLoan_86 : decode cX1_addLoan 86 = .ok (.aaload, 1) := by decide +kernel
theorem dX1_addLoan_87 : decode cX1_addLoan 87 = .ok (.iload_n 3, 1) := by decide +kernel
theorem dX1_addLoan_88 : decode cX1_addLoan 88 = .ok (.iload 4, 2) := by decide +kernel
theorem dX1_addLoan_90 : decode cX1_addLoan 90 = .ok (.invokevirtual 83, 3) := by decide +kernel
theorem dX1_addLoan_93 : decode cX1_addLoan 93 = .ok (.return_, 1) := by decide +kernel
theorem dX1_canGiveBack_0 : decode cX1_canGiveBack 0 = .ok (.aload_n 0, 1) := by decide +kernel
theorem dX1_canGiveBack_1 : decode cX1_canGiveBack 1 = .ok (.getfield 19, 3) := by decide +kernel
theorem dX1_canGiveBack_4 : decode cX1_canGiveBack 4 = .ok (.aload_n 1, 1) := by decide +kernel
theorem dX1_canGiveBack_5 : decode cX1_canGiveBack 5 = .ok (.getfield 69, 3) := by decide +kernel
theorem dX1_canGiveBack_8 : decode cX1_canGiveBack 8 = .ok (.aaload, 1) := by decide +kernel
theorem dX1_canGiveBack_9 : decode cX1_canGiveBack 9 = .ok (.getfield 59, 3) := by decide +kernel
theorem dX1_canGiveBack_12 : decode cX1_canGiveBack 12 = .ok (.aload_n 1, 1) := by decide +kernel
theorem dX1_canGiveBack_13 : decode cX1_canGiveBack 13 = .ok (.getfield 77, 3) := by decide +kernel
theorem dX1_canGiveBack_16 : decode cX1_canGiveBack 16 = .ok (.iaload, 1) := by decide +kernel
theorem dX1_canGiveBack_17 : decode cX1_canGiveBack 17 = .ok (.aload_n 1, 1) := by decide +kernel
theorem dX1_canGiveBack_18 : decode cX1_canGiveBack 18 = .ok (.getfield 75, 3) := by decide +kernel
theorem dX1_canGiveBack_21 : decode cX1_canGiveBack 21 = .ok (.if_icmp .lt 7, 3) := by decide +kernel
theorem dX1_canGiveBack_24 : decode cX1_canGiveBack 24 = .ok (.iconst 1, 1) := by decide +kernel
theorem dX1_canGiveBack_25 : decode cX1_canGiveBack 25 = .ok (.goto 4, 3) := by decide +kernel
theorem dX1_canGiveBack_28 : decode cX1_canGiveBack 28 = .ok (.iconst 0, 1) := by decide +kernel
theorem dX1_canGiveBack_29 : decode cX1_canGiveBack 29 = .ok (.ireturn, 1) := by decide +kernel
theorem dX1_giveBack_0 : decode cX1_giveBack 0 = .ok (.aload_n 0, 1) := by decide +kernel
theorem dX1_giveBack_1 : decode cX1_giveBack 1 = .ok (.getfield 25, 3) := by decide +kernel
theorem dX1_giveBack_4 : decode cX1_giveBack 4 = .ok (.iload_n 1, 1) := by decide +kernel
theorem dX1_giveBack_5 : decode cX1_giveBack 5 = .ok (.aaload, 1) := by decide +kernel
theorem dX1_giveBack_6 : decode cX1_giveBack 6 = .ok (.astore_n 3, 1) := by decide +kernel
theorem dX1_giveBack_7 : decode cX1_giveBack 7 = .ok (.aload_n 2, 1) := by decide +kernel
theorem dX1_giveBack_8 : decode cX1_giveBack 8 = .ok (.aload_n 3, 1) := by decide +kernel
theorem dX1_giveBack_9 : decode cX1_giveBack 9 = .ok (.getfield 75, 3) := by decide +kernel
theorem dX1_giveBack_12 : decode cX1_giveBack 12 = .ok (.aload_n 0, 1) := by decide +kernel
theorem dX1_giveBack_13 : decode cX1_giveBack 13 = .ok (.getfield 11, 3) := by decide +kernel
theorem dX1_giveBack_16 : decode cX1_giveBack 16 = .ok (.aload_n 3, 1) := by decide +kernel
theorem dX1_giveBack_17 : decode cX1_giveBack 17 = .ok (.getfield 77, 3) := by decide +kernel
theorem dX1_giveBack_20 : decode cX1_giveBack 20 = .ok (.aaload, 1) := by decide +kernel
theorem dX1_giveBack_21 : decode cX1_giveBack 21 = .ok (.getfield 87, 3) := by decide +kernel
theorem dX1_giveBack_24 : decode cX1_giveBack 24 = .ok (.aload_n 0, 1) := by decide +kernel
theorem dX1_giveBack_25 : decode cX1_giveBack 25 = .ok (.getfield 42, 3) := by decide +kernel
theorem dX1_giveBack_28 : decode cX1_giveBack 28 = .ok (.invokevirtual 90, 3) := by decide +kernel
theorem dX1_giveBack_31 : decode cX1_giveBack 31 = .ok (.istore 4, 2) := by decide +kernel
theorem dX1_giveBack_33 : decode cX1_giveBack 33 = .ok (.aload_n 0, 1) := by decide +kernel
theorem dX1_giveBack_34 : decode cX1_giveBack 34 = .ok (.getfield 19, 3) := by decide +kernel
theorem dX1_giveBack_37 : decode cX1_giveBack 37 = .ok (.aload_n 3, 1) := by decide +kernel
theorem dX1_giveBack_38 : decode cX1_giveBack 38 = .ok (.getfield 69, 3) := by decide +kernel
theorem dX1_giveBack_41 : decode cX1_giveBack 41 = .ok (.aaload, 1) := by decide +kernel
theorem dX1_giveBack_42 : decode cX1_giveBack 42 = .ok (.aload_n 3, 1) := by decide +kernel
theorem dX1_giveBack_43 : decode cX1_giveBack 43 = .ok (.getfield 77, 3) := by decide +kernel
theorem dX1_giveBack_46 : decode cX1_giveBack 46 = .ok (.aload_n 3, 1) := by decide +kernel
theorem dX1_giveBack_47 : decode cX1_giveBack 47 = .ok (.getfield 75, 3) := by decide +kernel
theorem dX1_giveBack_50 : decode cX1_giveBack 50 = .ok (.ineg, 1) := by decide +kernel
theorem dX1_giveBack_51 : decode cX1_giveBack 51 = .ok (.invokevirtual 83, 3) := by decide +kernel
theorem dX1_giveBack_54 : decode cX1_giveBack 54 = .ok (.aload_n 0, 1) := by decide +kernel
theorem dX1_giveBack_55 : decode cX1_giveBack 55 = .ok (.getfield 19, 3) := by decide +kernel
theorem dX1_giveBack_58 : decode cX1_giveBack 58 = .ok (.aload_n 3, 1) := by decide +kernel
theorem dX1_giveBack_59 : decode cX1_giveBack 59 = .ok (.getfield 72, 3) := by decide +kernel
theorem dX1_giveBack_62 : decode cX1_giveBack 62 = .ok (.aaload, 1) := by decide +kernel
theorem dX1_giveBack_63 : decode cX1_giveBack 63 = .ok (.aload_n 3, 1) := by decide +kernel
theorem dX1_giveBack_64 : decode cX1_giveBack 64 = .ok (.getfield 77, 3) := by decide +kernel
theorem dX1_giveBack_67 : decode cX1_giveBack 67 = .ok (.iload 4, 2) := by decide +kernel
theorem dX1_giveBack_69 : decode cX1_giveBack 69 = .ok (.invokevirtual 83, 3) := by decide +kernel
theorem dX1_giveBack_72 : decode cX1_giveBack 72 = .ok (.aload_n 0, 1) := by decide +kernel
theorem dX1_giveBack_73 : decode cX1_giveBack 73 = .ok (.iload_n 1, 1) := by decide +kernel
theorem dX1_giveBack_74 : decode cX1_giveBack 74 = .ok (.invokevirtual 96, 3) := by decide +kernel
theorem dX1_giveBack_77 : decode cX1_giveBack 77 = .ok (.iload 4, 2) := by decide +kernel
theorem dX1_giveBack_79 : decode cX1_giveBack 79 = .ok (.ireturn, 1) := by decide +kernel
theorem dX1_breakOff_0 : decode cX1_breakOff 0 = .ok (.aload_n 0, 1) := by decide +kernel
theorem dX1_breakOff_1 : decode cX1_breakOff 1 = .ok (.getfield 19, 3) := by decide +kernel
theorem dX1_breakOff_4 : decode cX1_breakOff 4 = .ok (.aload_n 0, 1) := by decide +kernel
theorem dX1_breakOff_5 : decode cX1_breakOff 5 = .ok (.getfield 25, 3) := by decide +kernel
theorem dX1_breakOff_8 : decode cX1_breakOff 8 = .ok (.iload_n 1, 1) := by decide +kernel
theorem dX1_breakOff_9 : decode cX1_breakOff 9 = .ok (.aaload, 1) := by decide +kernel
theorem dX1_breakOff_10 : decode cX1_breakOff 10 = .ok (.getfield 69, 3) := by decide +kernel
theorem dX1_breakOff_13 : decode cX1_breakOff 13 = .ok (.aaload, 1) := by decide +kernel
theorem dX1_breakOff_14 : decode cX1_breakOff 14 = .ok (.astore_n 2, 1) := by decide +kernel
theorem dX1_breakOff_15 : decode cX1_breakOff 15 = .ok (.aload_n 2, 1) := by decide +kernel
theorem dX1_breakOff_16 : decode cX1_breakOff 16 = .ok (.aload_n 2, 1) := by decide +kernel
theorem dX1_breakOff_17 : decode cX1_breakOff 17 = .ok (.getfield 66, 3) := by decide +kernel
theorem dX1_breakOff_20 : decode cX1_breakOff 20 = .ok (.iconst 1, 1) := by decide +kernel
theorem dX1_breakOff_21 : decode cX1_breakOff 21 = .ok (.iadd, 1) := by decide +kernel
theorem dX1_breakOff_22 : decode cX1_breakOff 22 = .ok (.bipush 99, 2) := by decide +kernel
theorem dX1_breakOff_24 : decode cX1_breakOff 24 = .ok (.invokestatic 100, 3) := by decide +kernel
theorem dX1_breakOff_27 : decode cX1_breakOff 27 = .ok (.putfield 66, 3) := by decide +kernel
theorem dX1_breakOff_30 : decode cX1_breakOff 30 = .ok (.aload_n 0, 1) := by decide +kernel
theorem dX1_breakOff_31 : decode cX1_breakOff 31 = .ok (.iload_n 1, 1) := by decide +kernel
theorem dX1_breakOff_32 : decode cX1_breakOff 32 = .ok (.invokevirtual 96, 3) := by decide +kernel
theorem dX1_breakOff_35 : decode cX1_breakOff 35 = .ok (.return_, 1) := by decide +kernel
theorem dX1_drop_0 : decode cX1_drop 0 = .ok (.aload_n 0, 1) := by decide +kernel
theorem dX1_drop_1 : decode cX1_drop 1 = .ok (.getfield 25, 3) := by decide +kernel
theorem dX1_drop_4 : decode cX1_drop 4 = .ok (.iload_n 1, 1) := by decide +kernel
theorem dX1_drop_5 : decode cX1_drop 5 = .ok (.aaload, 1) := by decide +kernel
theorem dX1_drop_6 : decode cX1_drop 6 = .ok (.astore_n 2, 1) := by decide +kernel
theorem dX1_drop_7 : decode cX1_drop 7 = .ok (.iload_n 1, 1) := by decide +kernel
theorem dX1_drop_8 : decode cX1_drop 8 = .ok (.iconst 1, 1) := by decide +kernel
theorem dX1_drop_9 : decode cX1_drop 9 = .ok (.iadd, 1) := by decide +kernel
theorem dX1_drop_10 : decode cX1_drop 10 = .ok (.istore_n 3, 1) := by decide +kernel
theorem dX1_drop_11 : decode cX1_drop 11 = .ok (.iload_n 3, 1) := by decide +kernel
theorem dX1_drop_12 : decode cX1_drop 12 = .ok (.aload_n 0, 1) := by decide +kernel
theorem dX1_drop_13 : decode cX1_drop 13 = .ok (.getfield 39, 3) := by decide +kernel
theorem dX1_drop_16 : decode cX1_drop 16 = .ok (.if_icmp .ge 23, 3) := by decide +kernel
theorem dX1_drop_19 : decode cX1_drop 19 = .ok (.aload_n 0, 1) := by decide +kernel
theorem dX1_drop_20 : decode cX1_drop 20 = .ok (.getfield 25, 3) := by decide +kernel
theorem dX1_drop_23 : decode cX1_drop 23 = .ok (.iload_n 3, 1) := by decide +kernel
theorem dX1_drop_24 : decode cX1_drop 24 = .ok (.iconst 1, 1) := by decide +kernel
theorem dX1_drop_25 : decode cX1_drop 25 = .ok (.isub, 1) := by decide +kernel
theorem dX1_drop_26 : decode cX1_drop 26 = .ok (.aload_n 0, 1) := by decide +kernel
theorem dX1_drop_27 : decode cX1_drop 27 = .ok (.getfield 25, 3) := by decide +kernel
theorem dX1_drop_30 : decode cX1_drop 30 = .ok (.iload_n 3, 1) := by decide +kernel
theorem dX1_drop_31 : decode cX1_drop 31 = .ok (.aaload, 1) := by decide +kernel
theorem dX1_drop_32 : decode cX1_drop 32 = .ok (.aastore, 1) := by decide +kernel
theorem dX1_drop_33 : decode cX1_drop 33 = .ok (.iinc 3 1, 3) := by decide +kernel
theorem dX1_drop_36 : decode cX1_drop 36 = .ok (.goto (-25), 3) := by decide +kernel
theorem dX1_drop_39 : decode cX1_drop 39 = .ok (.aload_n 0, 1) := by decide +kernel
theorem dX1_drop_40 : decode cX1_drop 40 = .ok (.dup, 1) := by decide +kernel
theorem dX1_drop_41 : decode cX1_drop 41 = .ok (.getfield 39, 3) := by decide +kernel
theorem dX1_drop_44 : decode cX1_drop 44 = .ok (.iconst 1, 1) := by decide +kernel
theorem dX1_drop_45 : decode cX1_drop 45 = .ok (.isub, 1) := by decide +kernel
theorem dX1_drop_46 : decode cX1_drop 46 = .ok (.putfield 39, 3) := by decide +kernel
theorem dX1_drop_49 : decode cX1_drop 49 = .ok (.aload_n 0, 1) := by decide +kernel
theorem dX1_drop_50 : decode cX1_drop 50 = .ok (.getfield 25, 3) := by decide +kernel
theorem dX1_drop_53 : decode cX1_drop 53 = .ok (.aload_n 0, 1) := by decide +kernel
theorem dX1_drop_54 : decode cX1_drop 54 = .ok (.getfield 39, 3) := by decide +kernel
theorem dX1_drop_57 : decode cX1_drop 57 = .ok (.aload_n 2, 1) := by decide +kernel
theorem dX1_drop_58 : decode cX1_drop 58 = .ok (.aastore, 1) := by decide +kernel
theorem dX1_drop_59 : decode cX1_drop 59 = .ok (.return_, 1) := by decide +kernel
theorem dX1_passDays_0 : decode cX1_passDays 0 = .ok (.iconst 0, 1) := by decide +kernel
theorem dX1_passDays_1 : decode cX1_passDays 1 = .ok (.istore_n 3, 1) := by decide +kernel
theorem dX1_passDays_2 : decode cX1_passDays 2 = .ok (.iload_n 3, 1) := by decide +kernel
theorem dX1_passDays_3 : decode cX1_passDays 3 = .ok (.iload_n 1, 1) := by decide +kernel
theorem dX1_passDays_4 : decode cX1_passDays 4 = .ok (.if_icmp .ge 28, 3) := by decide +kernel
theorem dX1_passDays_7 : decode cX1_passDays 7 = .ok (.aload_n 0, 1) := by decide +kernel
theorem dX1_passDays_8 : decode cX1_passDays 8 = .ok (.dup, 1) := by decide +kernel
theorem dX1_passDays_9 : decode cX1_passDays 9 = .ok (.getfield 42, 3) := by decide +kernel
theorem dX1_passDays_12 : decode cX1_passDays 12 = .ok (.iconst 1, 1) := by decide +kernel
theorem dX1_passDays_13 : decode cX1_passDays 13 = .ok (.iadd, 1) := by decide +kernel
theorem dX1_passDays_14 : decode cX1_passDays 14 = .ok (.putfield 42, 3) := by decide +kernel
theorem dX1_passDays_17 : decode cX1_passDays 17 = .ok (.aload_n 0, 1) := by decide +kernel
theorem dX1_passDays_18 : decode cX1_passDays 18 = .ok (.invokevirtual 104, 3) := by decide +kernel
theorem dX1_passDays_21 : decode cX1_passDays 21 = .ok (.aload_n 0, 1) := by decide +kernel
theorem dX1_passDays_22 : decode cX1_passDays 22 = .ok (.aload_n 2, 1) := by decide +kernel
theorem dX1_passDays_23 : decode cX1_passDays 23 = .ok (.invokevirtual 107, 3) := by decide +kernel
theorem dX1_passDays_26 : decode cX1_passDays 26 = .ok (.iinc 3 1, 3) := by decide +kernel
theorem dX1_passDays_29 : decode cX1_passDays 29 = .ok (.goto (-27), 3) := by decide +kernel
theorem dX1_passDays_32 : decode cX1_passDays 32 = .ok (.return_, 1) := by decide +kernel
theorem dX1_growHedges_0 : decode cX1_growHedges 0 = .ok (.iconst 0, 1) := by decide +kernel
theorem dX1_growHedges_1 : decode cX1_growHedges 1 = .ok (.istore_n 1, 1) := by decide +kernel
theorem dX1_growHedges_2 : decode cX1_growHedges 2 = .ok (.iload_n 1, 1) := by decide +kernel
theorem dX1_growHedges_3 : decode cX1_growHedges 3 = .ok (.aload_n 0, 1) := by decide +kernel
theorem dX1_growHedges_4 : decode cX1_growHedges 4 = .ok (.getfield 32, 3) := by decide +kernel
theorem dX1_growHedges_7 : decode cX1_growHedges 7 = .ok (.if_icmp .ge 44, 3) := by decide +kernel
theorem dX1_growHedges_10 : decode cX1_growHedges 10 = .ok (.aload_n 0, 1) := by decide +kernel
theorem dX1_growHedges_11 : decode cX1_growHedges 11 = .ok (.getfield 11, 3) := by decide +kernel
theorem dX1_growHedges_14 : decode cX1_growHedges 14 = .ok (.iload_n 1, 1) := by decide +kernel
theorem dX1_growHedges_15 : decode cX1_growHedges 15 = .ok (.aaload, 1) := by decide +kernel
theorem dX1_growHedges_16 : decode cX1_growHedges 16 = .ok (.astore_n 2, 1) := by decide +kernel
theorem dX1_growHedges_17 : decode cX1_growHedges 17 = .ok (.aload_n 0, 1) := by decide +kernel
theorem dX1_growHedges_18 : decode cX1_growHedges 18 = .ok (.aload_n 2, 1) := by decide +kernel
theorem dX1_growHedges_19 : decode cX1_growHedges 19 = .ok (.getfield 111, 3) := by decide +kernel
theorem dX1_growHedges_22 : decode cX1_growHedges 22 = .ok (.invokevirtual 114, 3) := by decide +kernel
theorem dX1_growHedges_25 : decode cX1_growHedges 25 = .ok (.ifCond .eq 20, 3) := by decide +kernel
theorem dX1_growHedges_28 : decode cX1_growHedges 28 = .ok (.aload_n 0, 1) := by decide +kernel
theorem dX1_growHedges_29 : decode cX1_growHedges 29 = .ok (.getfield 19, 3) := by decide +kernel
theorem dX1_growHedges_32 : decode cX1_growHedges 32 = .ok (.aload_n 2, 1) := by decide +kernel
theorem dX1_growHedges_33 : decode cX1_growHedges 33 = .ok (.getfield 111, 3) := by decide +kernel
theorem dX1_growHedges_36 : decode cX1_growHedges 36 = .ok (.aaload, 1) := by decide +kernel
theorem dX1_growHedges_37 : decode cX1_growHedges 37 = .ok (.iload_n 1, 1) := by decide +kernel
theorem dX1_growHedges_38 : decode cX1_growHedges 38 = .ok (.aload_n 2, 1) := by decide +kernel
theorem dX1_growHedges_39 : decode cX1_growHedges 39 = .ok (.getfield 118, 3) := by decide +kernel
theorem dX1_growHedges_42 : decode cX1_growHedges 42 = .ok (.invokevirtual 83, 3) := by decide +kernel
theorem dX1_growHedges_45 : decode cX1_growHedges 45 = .ok (.iinc 1 1, 3) := by decide +kernel
theorem dX1_growHedges_48 : decode cX1_growHedges 48 = .ok (.goto (-46), 3) := by decide +kernel
theorem dX1_growHedges_51 : decode cX1_growHedges 51 = .ok (.return_, 1) := by decide +kernel
theorem dX1_settleLoans_0 : decode cX1_settleLoans 0 = .ok (.aload_n 0, 1) := by decide +kernel
theorem dX1_settleLoans_1 : decode cX1_settleLoans 1 = .ok (.getfield 39, 3) := by decide +kernel
theorem dX1_settleLoans_4 : decode cX1_settleLoans 4 = .ok (.istore_n 2, 1) := by decide +kernel
theorem dX1_settleLoans_5 : decode cX1_settleLoans 5 = .ok (.iconst 0, 1) := by decide +kernel
theorem dX1_settleLoans_6 : decode cX1_settleLoans 6 = .ok (.istore_n 3, 1) := by decide +kernel
theorem dX1_settleLoans_7 : decode cX1_settleLoans 7 = .ok (.iconst 0, 1) := by decide +kernel
theorem dX1_settleLoans_8 : decode cX1_settleLoans 8 = .ok (.istore 4, 2) := by decide +kernel
theorem dX1_settleLoans_10 : decode cX1_settleLoans 10 = .ok (.iload 4, 2) := by decide +kernel
theorem dX1_settleLoans_12 : decode cX1_settleLoans 12 = .ok (.iload_n 2, 1) := by decide +kernel
theorem dX1_settleLoans_13 : decode cX1_settleLoans 13 = .ok (.if_icmp .ge 59, 3) := by decide +kernel
theorem dX1_settleLoans_16 : decode cX1_settleLoans 16 = .ok (.aload_n 0, 1) := by decide +kernel
theorem dX1_settleLoans_17 : decode cX1_settleLoans 17 = .ok (.getfield 25, 3) := by decide +kernel
theorem dX1_settleLoans_20 : decode cX1_settleLoans 20 = .ok (.iload_n 3, 1) := by decide +kernel
theorem dX1_settleLoans_21 : decode cX1_settleLoans 21 = .ok (.aaload, 1) := by decide +kernel
theorem dX1_settleLoans_22 : decode cX1_settleLoans 22 = .ok (.getfield 80, 3) := by decide +kernel
theorem dX1_settleLoans_25 : decode cX1_settleLoans 25 = .ok (.aload_n 0, 1) := by decide +kernel
theorem dX1_settleLoans_26 : decode cX1_settleLoans 26 = .ok (.getfield 42, 3) := by decide +kernel
theorem dX1_settleLoans_29 : decode cX1_settleLoans 29 = .ok (.if_icmp .eq 9, 3) := by decide +kernel
theorem dX1_settleLoans_32 : decode cX1_settleLoans 32 = .ok (.iinc 3 1, 3) := by decide +kernel
theorem dX1_settleLoans_35 : decode cX1_settleLoans 35 = .ok (.goto 31, 3) := by decide +kernel
theorem dX1_settleLoans_38 : decode cX1_settleLoans 38 = .ok (.aload_n 0, 1) := by decide +kernel
theorem dX1_settleLoans_39 : decode cX1_settleLoans 39 = .ok (.aload_n 0, 1) := by decide +kernel
theorem dX1_settleLoans_40 : decode cX1_settleLoans 40 = .ok (.getfield 25, 3) := by decide +kernel
theorem dX1_settleLoans_43 : decode cX1_settleLoans 43 = .ok (.iload_n 3, 1) := by decide +kernel
theorem dX1_settleLoans_44 : decode cX1_settleLoans 44 = .ok (.aaload, 1) := by decide +kernel
theorem dX1_settleLoans_45 : decode cX1_settleLoans 45 = .ok (.invokevirtual 121, 3) := by decide +kernel
theorem dX1_settleLoans_48 : decode cX1_settleLoans 48 = .ok (.ifCond .eq 13, 3) := by decide +kernel
theorem dX1_settleLoans_51 : decode cX1_settleLoans 51 = .ok (.aload_n 0, 1) := by decide +kernel
theorem dX1_settleLoans_52 : decode cX1_settleLoans 52 = .ok (.iload_n 3, 1) := by decide +kernel
theorem dX1_settleLoans_53 : decode cX1_settleLoans 53 = .ok (.aload_n 1, 1) := by decide +kernel
theorem dX1_settleLoans_54 : decode cX1_settleLoans 54 = .ok (.invokevirtual 125, 3) := by decide +kernel
theorem dX1_settleLoans_57 : decode cX1_settleLoans 57 = .ok (.pop, 1) := by decide +kernel
theorem dX1_settleLoans_58 : decode cX1_settleLoans 58 = .ok (.goto 8, 3) := by decide +kernel
theorem dX1_settleLoans_61 : decode cX1_settleLoans 61 = .ok (.aload_n 0, 1) := by decide +kernel
theorem dX1_settleLoans_62 : decode cX1_settleLoans 62 = .ok (.iload_n 3, 1) := by decide +kernel
theorem dX1_settleLoans_63 : decode cX1_settleLoans 63 = .ok (.invokevirtual 129, 3) := by decide +kernel
theorem dX1_settleLoans_66 : decode cX1_settleLoans 66 = .ok (.iinc 4 1, 3) := by decide +kernel
theorem dX1_settleLoans_69 : decode cX1_settleLoans 69 = .ok (.goto (-59), 3) := by decide +kernel
theorem dX1_settleLoans_72 : decode cX1_settleLoans 72 = .ok (.return_, 1) := by decide +kernel
theorem dX2_init_0 : decode cX2_init 0 = .ok (.aload_n 0, 1) := by decide +kernel
theorem dX2_init_1 : decode cX2_init 1 = .ok (.invokespecial 3, 3) := by decide +kernel
theorem dX2_init_4 : decode cX2_init 4 = .ok (.aload_n 0, 1) := by decide +kernel
theorem dX2_init_5 : decode cX2_init 5 = .ok (.bipush 50, 2) := by decide +kernel
theorem dX2_init_7 : decode cX2_init 7 = .ok (.newarray .int, 2) := by decide +kernel
theorem dX2_init_9 : decode cX2_init 9 = .ok (.putfield 9, 3) := by decide +kernel
theorem dX2_init_12 : decode cX2_init 12 = .ok (.aload_n 0, 1) := by decide +kernel
theorem dX2_init_13 : decode cX2_init 13 = .ok (.bipush 50, 2) := by decide +kernel
theorem dX2_init_15 : decode cX2_init 15 = .ok (.newarray .int, 2) := by decide +kernel
theorem dX2_init_17 : decode cX2_init 17 = .ok (.putfield 15, 3) := by decide +kernel
theorem dX2_init_20 : decode cX2_init 20 = .ok (.aload_n 0, 1) := by decide +kernel
theorem dX2_init_21 : decode cX2_init 21 = .ok (.iload_n 1, 1) := by decide +kernel
theorem dX2_init_22 : decode cX2_init 22 = .ok (.putfield 18, 3) := by decide +kernel
theorem dX2_init_25 : decode cX2_init 25 = .ok (.return_, 1) := by decide +kernel
theorem dX2_take_0 : decode cX2_take 0 = .ok (.aload_n 0, 1) := by decide +kernel
theorem dX2_take_1 : decode cX2_take 1 = .ok (.iload_n 2, 1) := by decide +kernel
theorem dX2_take_2 : decode cX2_take 2 = .ok (.bipush 50, 2) := by decide +kernel
theorem dX2_take_4 : decode cX2_take 4 = .ok (.invokestatic 22, 3) := by decide +kernel
theorem dX2_take_7 : decode cX2_take 7 = .ok (.putfield 26, 3) := by decide +kernel
theorem dX2_take_10 : decode cX2_take 10 = .ok (.aload_n 1, 1) := by decide +kernel
theorem dX2_take_11 : decode cX2_take 11 = .ok (.iconst 0, 1) := by decide +kernel
theorem dX2_take_12 : decode cX2_take 12 = .ok (.aload_n 0, 1) := by decide +kernel
theorem dX2_take_13 : decode cX2_take 13 = .ok (.getfield 9, 3) := by decide +kernel
theorem dX2_take_16 : decode cX2_take 16 = .ok (.iconst 0, 1) := by decide +kernel
theorem dX2_take_17 : decode cX2_take 17 = .ok (.aload_n 0, 1) := by decide +kernel
theorem dX2_take_18 : decode cX2_take 18 = .ok (.getfield 26, 3) := by decide +kernel
theorem dX2_take_21 : decode cX2_take 21 = .ok (.invokestatic 29, 3) := by decide +kernel
theorem dX2_take_24 : decode cX2_take 24 = .ok (.return_, 1) := by decide +kernel
theorem dX2_gives_0 : decode cX2_gives 0 = .ok (.aload_n 0, 1) := by decide +kernel
theorem dX2_gives_1 : decode cX2_gives 1 = .ok (.getfield 26, 3) := by decide +kernel
theorem dX2_gives_4 : decode cX2_gives 4 = .ok (.ifCond .ne 12, 3) := by decide +kernel
theorem dX2_gives_7 : decode cX2_gives 7 = .ok (.aload_n 0, 1) := by decide +kernel
theorem dX2_gives_8 : decode cX2_gives 8 = .ok (.iload_n 1, 1) := by decide +kernel
theorem dX2_gives_9 : decode cX2_gives 9 = .ok (.iload_n 3, 1) := by decide +kernel
theorem dX2_gives_10 : decode cX2_gives 10 = .ok (.invokevirtual 35, 3) := by decide +kernel
theorem dX2_gives_13 : decode cX2_gives 13 = .ok (.goto 10, 3) := by decide +kernel
theorem dX2_gives_16 : decode cX2_gives 16 = .ok (.aload_n 0, 1) := by decide +kernel
theorem dX2_gives_17 : decode cX2_gives 17 = .ok (.iload_n 1, 1) := by decide +kernel
theorem dX2_gives_18 : decode cX2_gives 18 = .ok (.iload_n 2, 1) := by decide +kernel
theorem dX2_gives_19 : decode cX2_gives 19 = .ok (.iload_n 3, 1) := by decide +kernel
theorem dX2_gives_20 : decode cX2_gives 20 = .ok (.invokevirtual 38, 3) := by decide +kernel
theorem dX2_gives_23 : decode cX2_gives 23 = .ok (.bipush 99, 2) := by decide +kernel
theorem dX2_gives_25 : decode cX2_gives 25 = .ok (.invokestatic 22, 3) := by decide +kernel
theorem dX2_gives_28 : decode cX2_gives 28 = .ok (.ireturn, 1) := by decide +kernel
theorem dX2_withoutText_0 : decode cX2_withoutText 0 = .ok (.aload_n 0, 1) := by decide +kernel
theorem dX2_withoutText_1 : decode cX2_withoutText 1 = .ok (.getfield 18, 3) := by decide +kernel
theorem dX2_withoutText_4 : decode cX2_withoutText 4 = .ok (.ifCond .ne 9, 3) := by decide +kernel
theorem dX2_withoutText_7 : decode cX2_withoutText 7 = .ok (.iload_n 1, 1) := by decide +kernel
theorem dX2_withoutText_8 : decode cX2_withoutText 8 = .ok (.iload_n 2, 1) := by decide +kernel
theorem dX2_withoutText_9 : decode cX2_withoutText 9 = .ok (.iadd, 1) := by decide +kernel
theorem dX2_withoutText_10 : decode cX2_withoutText 10 = .ok (.goto 8, 3) := by decide +kernel
theorem dX2_withoutText_13 : decode cX2_withoutText 13 = .ok (.iload_n 1, 1) := by decide +kernel
theorem dX2_withoutText_14 : decode cX2_withoutText 14 = .ok (.iload_n 1, 1) := by decide +kernel
theorem dX2_withoutText_15 : decode cX2_withoutText 15 = .ok (.iconst 4, 1) := by decide +kernel
theorem dX2_withoutText_16 : decode cX2_withoutText 16 = .ok (.idiv, 1) := by decide +kernel
theorem dX2_withoutText_17 : decode cX2_withoutText 17 = .ok (.isub, 1) := by decide +kernel
theorem dX2_withoutText_18 : decode cX2_withoutText 18 = .ok (.ireturn, 1) := by decide +kernel
theorem dX2_worth_0 : decode cX2_worth 0 = .ok (.iconst 0, 1) := by decide +kernel
theorem dX2_worth_1 : decode cX2_worth 1 = .ok (.istore 4, 2) := by decide +kernel
theorem dX2_worth_3 : decode cX2_worth 3 = .ok (.iconst 0, 1) := by decide +kernel
theorem dX2_worth_4 : decode cX2_worth 4 = .ok (.istore 5, 2) := by decide +kernel
theorem dX2_worth_6 : decode cX2_worth 6 = .ok (.iload 5, 2) := by decide +kernel
theorem dX2_worth_8 : decode cX2_worth 8 = .ok (.aload_n 0, 1) := by decide +kernel
theorem dX2_worth_9 : decode cX2_worth 9 = .ok (.getfield 26, 3) := by decide +kernel
theorem dX2_worth_12 : decode cX2_worth 12 = .ok (.if_icmp .ge 151, 3) := by decide +kernel
theorem dX2_worth_15 : decode cX2_worth 15 = .ok (.aload_n 0, 1) := by decide +kernel
theorem dX2_worth_16 : decode cX2_worth 16 = .ok (.getfield 9, 3) := by decide +kernel
theorem dX2_worth_19 : decode cX2_worth 19 = .ok (.iload 5, 2) := by decide +kernel
theorem dX2_worth_21 : decode cX2_worth 21 = .ok (.iaload, 1) := by decide +kernel
theorem dX2_worth_22 : decode cX2_worth 22 = .ok (.istore 6, 2) := by decide +kernel
theorem dX2_worth_24 : decode cX2_worth 24 = .ok (.iload 6, 2) := by decide +kernel
theorem dX2_worth_26 : decode cX2_worth 26 = .ok (.bipush (-3), 2) := by decide +kernel
theorem dX2_worth_28 : decode cX2_worth 28 = .ok (.if_icmp .lt 48, 3) := by decide +kernel
theorem dX2_worth_31 : decode cX2_worth 31 = .ok (.aload_n 0, 1) := by decide +kernel
theorem dX2_worth_32 : decode cX2_worth 32 = .ok (.getfield 15, 3) := by decide +kernel
theorem dX2_worth_35 : decode cX2_worth 35 = .ok (.iload 4, 2) := by decide +kernel
theorem dX2_worth_37 : decode cX2_worth 37 = .ok (.iload 6, 2) := by decide +kernel
theorem dX2_worth_39 : decode cX2_worth 39 = .ok (.ifCond .lt 8, 3) := by decide +kernel
theorem dX2_worth_42 : decode cX2_worth 42 = .ok (.iload 6, 2) := by decide +kernel
theorem dX2_worth_44 : decode cX2_worth 44 = .ok (.goto 25, 3) := by decide +kernel
theorem dX2_worth_47 : decode cX2_worth 47 = .ok (.iload 6, 2) := by decide +kernel
theorem dX2_worth_49 : decode cX2_worth 49 = .ok (.iconst (-1), 1) := by decide +kernel
theorem dX2_worth_50 : decode cX2_worth 50 = .ok (.if_icmp .ne 7, 3) := by decide +kernel
theorem dX2_worth_53 : decode cX2_worth 53 = .ok (.iload_n 1, 1) := by decide +kernel
theorem dX2_worth_54 : decode cX2_worth 54 = .ok (.goto 15, 3) := by decide +kernel
theorem dX2_worth_57 : decode cX2_worth 57 = .ok (.iload 6, 2) := by decide +kernel
theorem dX2_worth_59 : decode cX2_worth 59 = .ok (.bipush (-2), 2) := by decide +kernel
theorem dX2_worth_61 : decode cX2_worth 61 = .ok (.if_icmp .ne 7, 3) := by decide +kernel
theorem dX2_worth_64 : decode cX2_worth 64 = .ok (.iload_n 2, 1) := by decide +kernel
theorem dX2_worth_65 : decode cX2_worth 65 = .ok (.goto 4, 3) := by decide +kernel
theorem dX2_worth_68 : decode cX2_worth 68 = .ok (.iload_n 3, 1) := by decide +kernel
theorem dX2_worth_69 : decode cX2_worth 69 = .ok (.iastore, 1) := by decide +kernel
theorem dX2_worth_70 : decode cX2_worth 70 = .ok (.iinc 4 1, 3) := by decide +kernel
theorem dX2_worth_73 : decode cX2_worth 73 = .ok (.goto 84, 3) := by decide +kernel
theorem dX2_worth_76 : decode cX2_worth 76 = .ok (.iload 6, 2) := by decide +kernel
theorem dX2_worth_78 : decode cX2_worth 78 = .ok (.bipush (-33), 2) := by decide +kernel
theorem dX2_worth_80 : decode cX2_worth 80 = .ok (.if_icmp .ne 37, 3) := by decide +kernel
theorem dX2_worth_83 : decode cX2_worth 83 = .ok (.iload 4, 2) := by decide +kernel
theorem dX2_worth_85 : decode cX2_worth 85 = .ok (.ifCond .le 32, 3) := by decide +kernel
theorem dX2_worth_88 : decode cX2_worth 88 = .ok (.aload_n 0, 1) := by decide +kernel
theorem dX2_worth_89 : decode cX2_worth 89 = .ok (.getfield 15, 3) := by decide +kernel
theorem dX2_worth_92 : decode cX2_worth 92 = .ok (.iload 4, 2) := by decide +kernel
theorem dX2_worth_94 : decode cX2_worth 94 = .ok (.iconst 1, 1) := by decide +kernel
theorem dX2_worth_95 : decode cX2_worth 95 = .ok (.isub, 1) := by decide +kernel
theorem dX2_worth_96 : decode cX2_worth 96 = .ok (.aload_n 0, 1) := by decide +kernel
theorem dX2_worth_97 : decode cX2_worth 97 = .ok (.getfield 15, 3) := by decide +kernel
theorem dX2_worth_100 : decode cX2_worth 100 = .ok (.iload 4, 2) := by decide +kernel
theorem dX2_worth_102 : decode cX2_worth 102 = .ok (.iconst 1, 1) := by decide +kernel
theorem dX2_worth_103 : decode cX2_worth 103 = .ok (.isub, 1) := by decide +kernel
theorem dX2_worth_104 : decode cX2_worth 104 = .ok (.iaload, 1) := by decide +kernel
theorem dX2_worth_105 : decode cX2_worth 105 = .ok (.ifCond .ne 7, 3) := by decide +kernel
theorem dX2_worth_108 : decode cX2_worth 108 = .ok (.iconst 1, 1) := by decide +kernel
theorem dX2_worth_109 : decode cX2_worth 109 = .ok (.goto 4, 3) := by decide +kernel
theorem dX2_worth_112 : decode cX2_worth 112 = .ok (.iconst 0, 1) := by decide +kernel
theorem dX2_worth_113 : decode cX2_worth 113 = .ok (.iastore, 1) := by decide +kernel
theorem dX2_worth_114 : decode cX2_worth 114 = .ok (.goto 43, 3) := by decide +kernel
theorem dX2_worth_117 : decode cX2_worth 117 = .ok (.iload 4, 2) := by decide +kernel
theorem dX2_worth_119 : decode cX2_worth 119 = .ok (.iconst 1, 1) := by decide +kernel
theorem dX2_worth_120 : decode cX2_worth 120 = .ok (.if_icmp .le 37, 3) := by decide +kernel
theorem dX2_worth_123 : decode cX2_worth 123 = .ok (.iinc 4 (-1), 3) := by decide +kernel
theorem dX2_worth_126 : decode cX2_worth 126 = .ok (.aload_n 0, 1) := by decide +kernel
theorem dX2_worth_127 : decode cX2_worth 127 = .ok (.getfield 15, 3) := by decide +kernel
theorem dX2_worth_130 : decode cX2_worth 130 = .ok (.iload 4, 2) := by decide +kernel
theorem dX2_worth_132 : decode cX2_worth 132 = .ok (.iconst 1, 1) := by decide +kernel
theorem dX2_worth_133 : decode cX2_worth 133 = .ok (.isub, 1) := by decide +kernel
theorem dX2_worth_134 : decode cX2_worth 134 = .ok (.iload 6, 2) := by decide +kernel
theorem dX2_worth_136 : decode cX2_worth 136 = .ok (.ineg, 1) := by decide +kernel
theorem dX2_worth_137 : decode cX2_worth 137 = .ok (.aload_n 0, 1) := by decide +kernel
theorem dX2_worth_138 : decode cX2_worth 138 = .ok (.getfield 15, 3) := by decide +kernel
theorem dX2_worth_141 : decode cX2_worth 141 = .ok (.iload 4, 2) := by decide +kernel
theorem dX2_worth_143 : decode cX2_worth 143 = .ok (.iconst 1, 1) := by decide +kernel
theorem dX2_worth_144 : decode cX2_worth 144 = .ok (.isub, 1) := by decide +kernel
theorem dX2_worth_145 : decode cX2_worth 145 = .ok (.iaload, 1) := by decide +kernel
theorem dX2_worth_146 : decode cX2_worth 146 = .ok (.aload_n 0, 1) := by decide +kernel
theorem dX2_worth_147 : decode cX2_worth 147 = .ok (.getfield 15, 3) := by decide +kernel
theorem dX2_worth_150 : decode cX2_worth 150 = .ok (.iload 4, 2) := by decide +kernel
theorem dX2_worth_152 : decode cX2_worth 152 = .ok (.iaload, 1) := by decide +kernel
theorem dX2_worth_153 : decode cX2_worth 153 = .ok (.invokestatic 42, 3) := by decide +kernel
theorem dX2_worth_156 : decode cX2_worth 156 = .ok (.iastore, 1) := by decide +kernel
theorem dX2_worth_157 : decode cX2_worth 157 = .ok (.iinc 5 1, 3) := by decide +kernel
theorem dX2_worth_160 : decode cX2_worth 160 = .ok (.goto (-154), 3) := by decide +kernel
theorem dX2_worth_163 : decode cX2_worth 163 = .ok (.aload_n 0, 1) := by decide +kernel
theorem dX2_worth_164 : decode cX2_worth 164 = .ok (.getfield 15, 3) := by decide +kernel
theorem dX2_worth_167 : decode cX2_worth 167 = .ok (.iconst 0, 1) := by decide +kernel
theorem dX2_worth_168 : decode cX2_worth 168 = .ok (.iaload, 1) := by decide +kernel
theorem dX2_worth_169 : decode cX2_worth 169 = .ok (.ireturn, 1) := by decide +kernel
theorem dX2_joined_0 : decode cX2_joined 0 = .ok (.iload_n 0, 1) := by decide +kernel
theorem dX2_joined_1 : decode cX2_joined 1 = .ok (.lookupswitch 188 #[(37, 176), (38, 105), (42, 160), (43, 152), (45, 156), (47, 164), (60, 119), (61, 130), (62, 141), (124, 91)], 91) := by decide +kernel
theorem dX2_joined_92 : decode cX2_joined 92 = .ok (.iload_n 1, 1) := by decide +kernel
theorem dX2_joined_93 : decode cX2_joined 93 = .ok (.ifCond .ne 7, 3) := by decide +kernel
theorem dX2_joined_96 : decode cX2_joined 96 = .ok (.iload_n 2, 1) := by decide +kernel
theorem dX2_joined_97 : decode cX2_joined 97 = .ok (.ifCond .eq 7, 3) := by decide +kernel
theorem dX2_joined_100 : decode cX2_joined 100 = .ok (.iconst 1, 1) := by decide +kernel
theorem dX2_joined_101 : decode cX2_joined 101 = .ok (.goto 4, 3) := by decide +kernel
theorem dX2_joined_104 : decode cX2_joined 104 = .ok (.iconst 0, 1) := by decide +kernel
theorem dX2_joined_105 : decode cX2_joined 105 = .ok (.ireturn, 1) := by decide +kernel
theorem dX2_joined_106 : decode cX2_joined 106 = .ok (.iload_n 1, 1) := by decide +kernel
theorem dX2_joined_107 : decode cX2_joined 107 = .ok (.ifCond .eq 11, 3) := by decide +kernel
theorem dX2_joined_110 : decode cX2_joined 110 = .ok (.iload_n 2, 1) := by decide +kernel
theorem dX2_joined_111 : decode cX2_joined 111 = .ok (.ifCond .eq 7, 3) := by decide +kernel
theorem dX2_joined_114 : decode cX2_joined 114 = .ok (.iconst 1, 1) := by decide +kernel
theorem dX2_joined_115 : decode cX2_joined 115 = .ok (.goto 4, 3) := by decide +kernel
theorem dX2_joined_118 : decode cX2_joined 118 = .ok (.iconst 0, 1) := by decide +kernel
theorem dX2_joined_119 : decode cX2_joined 119 = .ok (.ireturn, 1) := by decide +kernel
theorem dX2_joined_120 : decode cX2_joined 120 = .ok (.iload_n 1, 1) := by decide +kernel
theorem dX2_joined_121 : decode cX2_joined 121 = .ok (.iload_n 2, 1) := by decide +kernel
theorem dX2_joined_122 : decode cX2_joined 122 = .ok (.if_icmp .ge 7, 3) := by decide +kernel
theorem dX2_joined_125 : decode cX2_joined 125 = .ok (.iconst 1, 1) := by decide +kernel
theorem dX2_joined_126 : decode cX2_joined 126 = .ok (.goto 4, 3) := by decide +kernel
theorem dX2_joined_129 : decode cX2_joined 129 = .ok (.iconst 0, 1) := by decide +kernel
theorem dX2_joined_130 : decode cX2_joined 130 = .ok (.ireturn, 1) := by decide +kernel
theorem dX2_joined_131 : decode cX2_joined 131 = .ok (.iload_n 1, 1) := by decide +kernel
theorem dX2_joined_132 : decode cX2_joined 132 = .ok (.iload_n 2, 1) := by decide +kernel
theorem dX2_joined_133 : decode cX2_joined 133 = .ok (.if_icmp .ne 7, 3) := by decide +kernel
theorem dX2_joined_136 : decode cX2_joined 136 = .ok (.iconst 1, 1) := by decide +kernel
theorem dX2_joined_137 : decode cX2_joined 137 = .ok (.goto 4, 3) := by decide +kernel
theorem dX2_joined_140 : decode cX2_joined 140 = .ok (.iconst 0, 1) := by decide +kernel
theorem dX2_joined_141 : decode cX2_joined 141 = .ok (.ireturn, 1) := by decide +kernel
theorem dX2_joined_142 : decode cX2_joined 142 = .ok (.iload_n 1, 1) := by decide +kernel
theorem dX2_joined_143 : decode cX2_joined 143 = .ok (.iload_n 2, 1) := by decide +kernel
theorem dX2_joined_144 : decode cX2_joined 144 = .ok (.if_icmp .le 7, 3) := by decide +kernel
theorem dX2_joined_147 : decode cX2_joined 147 = .ok (.iconst 1, 1) := by decide +kernel
theorem dX2_joined_148 : decode cX2_joined 148 = .ok (.goto 4, 3) := by decide +kernel
theorem dX2_joined_151 : decode cX2_joined 151 = .ok (.iconst 0, 1) := by decide +kernel
theorem dX2_joined_152 : decode cX2_joined 152 = .ok (.ireturn, 1) := by decide +kernel
theorem dX2_joined_153 : decode cX2_joined 153 = .ok (.iload_n 1, 1) := by decide +kernel
theorem dX2_joined_154 : decode cX2_joined 154 = .ok (.iload_n 2, 1) := by decide +kernel
theorem dX2_joined_155 : decode cX2_joined 155 = .ok (.iadd, 1) := by decide +kernel
theorem dX2_joined_156 : decode cX2_joined 156 = .ok (.ireturn, 1) := by decide +kernel
theorem dX2_joined_157 : decode cX2_joined 157 = .ok (.iload_n 1, 1) := by decide +kernel
theorem dX2_joined_158 : decode cX2_joined 158 = .ok (.iload_n 2, 1) := by decide +kernel
theorem dX2_joined_159 : decode cX2_joined 159 = .ok (.isub, 1) := by decide +kernel
theorem dX2_joined_160 : decode cX2_joined 160 = .ok (.ireturn, 1) := by decide +kernel
theorem dX2_joined_161 : decode cX2_joined 161 = .ok (.iload_n 1, 1) := by decide +kernel
theorem dX2_joined_162 : decode cX2_joined 162 = .ok (.iload_n 2, 1) := by decide +kernel
theorem dX2_joined_163 : decode cX2_joined 163 = .ok (.imul, 1) := by decide +kernel
theorem dX2_joined_164 : decode cX2_joined 164 = .ok (.ireturn, 1) := by decide +kernel
theorem dX2_joined_165 : decode cX2_joined 165 = .ok (.iload_n 2, 1) := by decide +kernel
theorem dX2_joined_166 : decode cX2_joined 166 = .ok (.ifCond .ne 7, 3) := by decide +kernel
theorem dX2_joined_169 : decode cX2_joined 169 = .ok (.iconst 0, 1) := by decide +kernel
theorem dX2_joined_170 : decode cX2_joined 170 = .ok (.goto 6, 3) := by decide +kernel
theorem dX2_joined_173 : decode cX2_joined 173 = .ok (.iload_n 1, 1) := by decide +kernel
theorem dX2_joined_174 : decode cX2_joined 174 = .ok (.iload_n 2, 1) := by decide +kernel
theorem dX2_joined_175 : decode cX2_joined 175 = .ok (.idiv, 1) := by decide +kernel
theorem dX2_joined_176 : decode cX2_joined 176 = .ok (.ireturn, 1) := by decide +kernel
theorem dX2_joined_177 : decode cX2_joined 177 = .ok (.iload_n 2, 1) := by decide +kernel
theorem dX2_joined_178 : decode cX2_joined 178 = .ok (.ifCond .ne 7, 3) := by decide +kernel
theorem dX2_joined_181 : decode cX2_joined 181 = .ok (.iconst 0, 1) := by decide +kernel
theorem dX2_joined_182 : decode cX2_joined 182 = .ok (.goto 6, 3) := by decide +kernel
theorem dX2_joined_185 : decode cX2_joined 185 = .ok (.iload_n 1, 1) := by decide +kernel
theorem dX2_joined_186 : decode cX2_joined 186 = .ok (.iload_n 2, 1) := by decide +kernel
theorem dX2_joined_187 : decode cX2_joined 187 = .ok (.irem, 1) := by decide +kernel
theorem dX2_joined_188 : decode cX2_joined 188 = .ok (.ireturn, 1) := by decide +kernel
theorem dX2_joined_189 : decode cX2_joined 189 = .ok (.iconst 0, 1) := by decide +kernel
theorem dX2_joined_190 : decode cX2_joined 190 = .ok (.ireturn, 1) := by decide +kernel
theorem dX3_init_0 : decode cX3_init 0 = .ok (.aload_n 0, 1) := by decide +kernel
theorem dX3_init_1 : decode cX3_init 1 = .ok (.invokespecial 1, 3) := by decide +kernel
theorem dX3_init_4 : decode cX3_init 4 = .ok (.return_, 1) := by decide +kernel
theorem dX3_copy_0 : decode cX3_copy 0 = .ok (.aload_n 0, 1) := by decide +kernel
theorem dX3_copy_1 : decode cX3_copy 1 = .ok (.aload_n 1, 1) := by decide +kernel
theorem dX3_copy_2 : decode cX3_copy 2 = .ok (.getfield 7, 3) := by decide +kernel
theorem dX3_copy_5 : decode cX3_copy 5 = .ok (.putfield 7, 3) := by decide +kernel
theorem dX3_copy_8 : decode cX3_copy 8 = .ok (.aload_n 0, 1) := by decide +kernel
theorem dX3_copy_9 : decode cX3_copy 9 = .ok (.aload_n 1, 1) := by decide +kernel
theorem dX3_copy_10 : decode cX3_copy 10 = .ok (.getfield 13, 3) := by decide +kernel
theorem dX3_copy_13 : decode cX3_copy 13 = .ok (.putfield 13, 3) := by decide +kernel
theorem dX3_copy_16 : decode cX3_copy 16 = .ok (.aload_n 0, 1) := by decide +kernel
theorem dX3_copy_17 : decode cX3_copy 17 = .ok (.aload_n 1, 1) := by decide +kernel
theorem dX3_copy_18 : decode cX3_copy 18 = .ok (.getfield 16, 3) := by decide +kernel
theorem dX3_copy_21 : decode cX3_copy 21 = .ok (.putfield 16, 3) := by decide +kernel
theorem dX3_copy_24 : decode cX3_copy 24 = .ok (.aload_n 0, 1) := by decide +kernel
theorem dX3_copy_25 : decode cX3_copy 25 = .ok (.aload_n 1, 1) := by decide +kernel
theorem dX3_copy_26 : decode cX3_copy 26 = .ok (.getfield 19, 3) := by decide +kernel
theorem dX3_copy_29 : decode cX3_copy 29 = .ok (.putfield 19, 3) := by decide +kernel
theorem dX3_copy_32 : decode cX3_copy 32 = .ok (.aload_n 0, 1) := by decide +kernel
theorem dX3_copy_33 : decode cX3_copy 33 = .ok (.aload_n 1, 1) := by decide +kernel
theorem dX3_copy_34 : decode cX3_copy 34 = .ok (.getfield 22, 3) := by decide +kernel
theorem dX3_copy_37 : decode cX3_copy 37 = .ok (.putfield 22, 3) := by decide +kernel
theorem dX3_copy_40 : decode cX3_copy 40 = .ok (.return_, 1) := by decide +kernel
theorem dX4_init_0 : decode cX4_init 0 = .ok (.aload_n 0, 1) := by decide +kernel
theorem dX4_init_1 : decode cX4_init 1 = .ok (.invokespecial 3, 3) := by decide +kernel
theorem dX4_init_4 : decode cX4_init 4 = .ok (.aload_n 0, 1) := by decide +kernel
theorem dX4_init_5 : decode cX4_init 5 = .ok (.iconst 5, 1) := by decide +kernel
theorem dX4_init_6 : decode cX4_init 6 = .ok (.newarray .int, 2) := by decide +kernel
theorem dX4_init_8 : decode cX4_init 8 = .ok (.putfield 9, 3) := by decide +kernel
theorem dX4_init_11 : decode cX4_init 11 = .ok (.return_, 1) := by decide +kernel
theorem dX4_begin_0 : decode cX4_begin 0 = .ok (.iconst 0, 1) := by decide +kernel
theorem dX4_begin_1 : decode cX4_begin 1 = .ok (.istore_n 1, 1) := by decide +kernel
theorem dX4_begin_2 : decode cX4_begin 2 = .ok (.iload_n 1, 1) := by decide +kernel
theorem dX4_begin_3 : decode cX4_begin 3 = .ok (.iconst 5, 1) := by decide +kernel
theorem dX4_begin_4 : decode cX4_begin 4 = .ok (.if_icmp .ge 16, 3) := by decide +kernel
theorem dX4_begin_7 : decode cX4_begin 7 = .ok (.aload_n 0, 1) := by decide +kernel
theorem dX4_begin_8 : decode cX4_begin 8 = .ok (.getfield 9, 3) := by decide +kernel
theorem dX4_begin_11 : decode cX4_begin 11 = .ok (.iload_n 1, 1) := by decide +kernel
theorem dX4_begin_12 : decode cX4_begin 12 = .ok (.iconst 0, 1) := by decide +kernel
theorem dX4_begin_13 : decode cX4_begin 13 = .ok (.iastore, 1) := by decide +kernel
theorem dX4_begin_14 : decode cX4_begin 14 = .ok (.iinc 1 1, 3) := by decide +kernel
theorem dX4_begin_17 : decode cX4_begin 17 = .ok (.goto (-15), 3) := by decide +kernel
theorem dX4_begin_20 : decode cX4_begin 20 = .ok (.aload_n 0, 1) := by decide +kernel
theorem dX4_begin_21 : decode cX4_begin 21 = .ok (.iconst 0, 1) := by decide +kernel
theorem dX4_begin_22 : decode cX4_begin 22 = .ok (.putfield 15, 3) := by decide +kernel
theorem dX4_begin_25 : decode cX4_begin 25 = .ok (.aload_n 0, 1) := by decide +kernel
theorem dX4_begin_26 : decode cX4_begin 26 = .ok (.iconst 0, 1) := by decide +kernel
theorem dX4_begin_27 : decode cX4_begin 27 = .ok (.putfield 19, 3) := by decide +kernel
theorem dX4_begin_30 : decode cX4_begin 30 = .ok (.return_, 1) := by decide +kernel
theorem dX4_copy_0 : decode cX4_copy 0 = .ok (.aload_n 1, 1) := by decide +kernel
theorem dX4_copy_1 : decode cX4_copy 1 = .ok (.getfield 9, 3) := by decide +kernel
theorem dX4_copy_4 : decode cX4_copy 4 = .ok (.iconst 0, 1) := by decide +kernel
theorem dX4_copy_5 : decode cX4_copy 5 = .ok (.aload_n 0, 1) := by decide +kernel
theorem dX4_copy_6 : decode cX4_copy 6 = .ok (.getfield 9, 3) := by decide +kernel
theorem dX4_copy_9 : decode cX4_copy 9 = .ok (.iconst 0, 1) := by decide +kernel
theorem dX4_copy_10 : decode cX4_copy 10 = .ok (.iconst 5, 1) := by decide +kernel
theorem dX4_copy_11 : decode cX4_copy 11 = .ok (.invokestatic 22, 3) := by decide +kernel
theorem dX4_copy_14 : decode cX4_copy 14 = .ok (.aload_n 0, 1) := by decide +kernel
theorem dX4_copy_15 : decode cX4_copy 15 = .ok (.aload_n 1, 1) := by decide +kernel
theorem dX4_copy_16 : decode cX4_copy 16 = .ok (.getfield 15, 3) := by decide +kernel
theorem dX4_copy_19 : decode cX4_copy 19 = .ok (.putfield 15, 3) := by decide +kernel
theorem dX4_copy_22 : decode cX4_copy 22 = .ok (.aload_n 0, 1) := by decide +kernel
theorem dX4_copy_23 : decode cX4_copy 23 = .ok (.aload_n 1, 1) := by decide +kernel
theorem dX4_copy_24 : decode cX4_copy 24 = .ok (.getfield 19, 3) := by decide +kernel
theorem dX4_copy_27 : decode cX4_copy 27 = .ok (.putfield 19, 3) := by decide +kernel
theorem dX4_copy_30 : decode cX4_copy 30 = .ok (.return_, 1) := by decide +kernel
theorem dX4_has_0 : decode cX4_has 0 = .ok (.iload_n 1, 1) := by decide +kernel
theorem dX4_has_1 : decode cX4_has 1 = .ok (.istore_n 2, 1) := by decide +kernel
theorem dX4_has_2 : decode cX4_has 2 = .ok (.iconst 0, 1) := by decide +kernel
theorem dX4_has_3 : decode cX4_has 3 = .ok (.istore_n 3, 1) := by decide +kernel
theorem dX4_has_4 : decode cX4_has 4 = .ok (.iload_n 3, 1) := by decide +kernel
theorem dX4_has_5 : decode cX4_has 5 = .ok (.iconst 5, 1) := by decide +kernel
theorem dX4_has_6 : decode cX4_has 6 = .ok (.if_icmp .ge 29, 3) := by decide +kernel
theorem dX4_has_9 : decode cX4_has 9 = .ok (.iload_n 2, 1) := by decide +kernel
theorem dX4_has_10 : decode cX4_has 10 = .ok (.bipush 10, 2) := by decide +kernel
theorem dX4_has_12 : decode cX4_has 12 = .ok (.irem, 1) := by decide +kernel
theorem dX4_has_13 : decode cX4_has 13 = .ok (.aload_n 0, 1) := by decide +kernel
theorem dX4_has_14 : decode cX4_has 14 = .ok (.getfield 9, 3) := by decide +kernel
theorem dX4_has_17 : decode cX4_has 17 = .ok (.iload_n 3, 1) := by decide +kernel
theorem dX4_has_18 : decode cX4_has 18 = .ok (.iaload, 1) := by decide +kernel
theorem dX4_has_19 : decode cX4_has 19 = .ok (.if_icmp .le 5, 3) := by decide +kernel
theorem dX4_has_22 : decode cX4_has 22 = .ok (.iconst 0, 1) := by decide +kernel
theorem dX4_has_23 : decode cX4_has 23 = .ok (.ireturn, 1) := by decide +kernel
theorem dX4_has_24 : decode cX4_has 24 = .ok (.iload_n 2, 1) := by decide +kernel
theorem dX4_has_25 : decode cX4_has 25 = .ok (.bipush 10, 2) := by decide +kernel
theorem dX4_has_27 : decode cX4_has 27 = .ok (.idiv, 1) := by decide +kernel
theorem dX4_has_28 : decode cX4_has 28 = .ok (.istore_n 2, 1) := by decide +kernel
theorem dX4_has_29 : decode cX4_has 29 = .ok (.iinc 3 1, 3) := by decide +kernel
theorem dX4_has_32 : decode cX4_has 32 = .ok (.goto (-28), 3) := by decide +kernel
theorem dX4_has_35 : decode cX4_has 35 = .ok (.iconst 1, 1) := by decide +kernel
theorem dX4_has_36 : decode cX4_has 36 = .ok (.ireturn, 1) := by decide +kernel
theorem dX4_burn_0 : decode cX4_burn 0 = .ok (.iload_n 1, 1) := by decide +kernel
theorem dX4_burn_1 : decode cX4_burn 1 = .ok (.istore_n 2, 1) := by decide +kernel
theorem dX4_burn_2 : decode cX4_burn 2 = .ok (.iconst 0, 1) := by decide +kernel
theorem dX4_burn_3 : decode cX4_burn 3 = .ok (.istore_n 3, 1) := by decide +kernel
theorem dX4_burn_4 : decode cX4_burn 4 = .ok (.iload_n 3, 1) := by decide +kernel
theorem dX4_burn_5 : decode cX4_burn 5 = .ok (.iconst 5, 1) := by decide +kernel
theorem dX4_burn_6 : decode cX4_burn 6 = .ok (.if_icmp .ge 27, 3) := by decide +kernel
theorem dX4_burn_9 : decode cX4_burn 9 = .ok (.aload_n 0, 1) := by decide +kernel
theorem dX4_burn_10 : decode cX4_burn 10 = .ok (.getfield 9, 3) := by decide +kernel
theorem dX4_burn_13 : decode cX4_burn 13 = .ok (.iload_n 3, 1) := by decide +kernel
theorem dX4_burn_14 : decode cX4_burn 14 = .ok (.dup2, 1) := by decide +kernel
theorem dX4_burn_15 : decode cX4_burn 15 = .ok (.iaload, 1) := by decide +kernel
theorem dX4_burn_16 : decode cX4_burn 16 = .ok (.iload_n 2, 1) := by decide +kernel
theorem dX4_burn_17 : decode cX4_burn 17 = .ok (.bipush 10, 2) := by decide +kernel
theorem dX4_burn_19 : decode cX4_burn 19 = .ok (.irem, 1) := by decide +kernel
theorem dX4_burn_20 : decode cX4_burn 20 = .ok (.isub, 1) := by decide +kernel
theorem dX4_burn_21 : decode cX4_burn 21 = .ok (.iastore, 1) := by decide +kernel
theorem dX4_burn_22 : decode cX4_burn 22 = .ok (.iload_n 2, 1) := by decide +kernel
theorem dX4_burn_23 : decode cX4_burn 23 = .ok (.bipush 10, 2) := by decide +kernel
theorem dX4_burn_25 : decode cX4_burn 25 = .ok (.idiv, 1) := by decide +kernel
theorem dX4_burn_26 : decode cX4_burn 26 = .ok (.istore_n 2, 1) := by decide +kernel
theorem dX4_burn_27 : decode cX4_burn 27 = .ok (.iinc 3 1, 3) := by decide +kernel
theorem dX4_burn_30 : decode cX4_burn 30 = .ok (.goto (-26), 3) := by decide +kernel
theorem dX4_burn_33 : decode cX4_burn 33 = .ok (.aload_n 0, 1) := by decide +kernel
theorem dX4_burn_34 : decode cX4_burn 34 = .ok (.aload_n 0, 1) := by decide +kernel
theorem dX4_burn_35 : decode cX4_burn 35 = .ok (.getfield 15, 3) := by decide +kernel
theorem dX4_burn_38 : decode cX4_burn 38 = .ok (.iconst 1, 1) := by decide +kernel
theorem dX4_burn_39 : decode cX4_burn 39 = .ok (.iadd, 1) := by decide +kernel
theorem dX4_burn_40 : decode cX4_burn 40 = .ok (.sipush 9999, 3) := by decide +kernel
theorem dX4_burn_43 : decode cX4_burn 43 = .ok (.invokestatic 28, 3) := by decide +kernel
theorem dX4_burn_46 : decode cX4_burn 46 = .ok (.putfield 15, 3) := by decide +kernel
theorem dX4_burn_49 : decode cX4_burn 49 = .ok (.return_, 1) := by decide +kernel
theorem dX4_change_0 : decode cX4_change 0 = .ok (.aload_n 0, 1) := by decide +kernel
theorem dX4_change_1 : decode cX4_change 1 = .ok (.getfield 9, 3) := by decide +kernel
theorem dX4_change_4 : decode cX4_change 4 = .ok (.iload_n 1, 1) := by decide +kernel
theorem dX4_change_5 : decode cX4_change 5 = .ok (.aload_n 0, 1) := by decide +kernel
theorem dX4_change_6 : decode cX4_change 6 = .ok (.getfield 9, 3) := by decide +kernel
theorem dX4_change_9 : decode cX4_change 9 = .ok (.iload_n 1, 1) := by decide +kernel
theorem dX4_change_10 : decode cX4_change 10 = .ok (.iaload, 1) := by decide +kernel
theorem dX4_change_11 : decode cX4_change 11 = .ok (.iload_n 2, 1) := by decide +kernel
theorem dX4_change_12 : decode cX4_change 12 = .ok (.iadd, 1) := by decide +kernel
theorem dX4_change_13 : decode cX4_change 13 = .ok (.sipush 999, 3) := by decide +kernel
theorem dX4_change_16 : decode cX4_change 16 = .ok (.invokestatic 28, 3) := by decide +kernel
theorem dX4_change_19 : decode cX4_change 19 = .ok (.iastore, 1) := by decide +kernel
theorem dX4_change_20 : decode cX4_change 20 = .ok (.return_, 1) := by decide +kernel
theorem dX5_init_0 : decode cX5_init 0 = .ok (.aload_n 0, 1) := by decide +kernel
theorem dX5_init_1 : decode cX5_init 1 = .ok (.invokespecial 3, 3) := by decide +kernel
theorem dX5_init_4 : decode cX5_init 4 = .ok (.aload_n 0, 1) := by decide +kernel
theorem dX5_init_5 : decode cX5_init 5 = .ok (.bipush 50, 2) := by decide +kernel
theorem dX5_init_7 : decode cX5_init 7 = .ok (.newarray .int, 2) := by decide +kernel
theorem dX5_init_9 : decode cX5_init 9 = .ok (.putfield 9, 3) := by decide +kernel
theorem dX5_init_12 : decode cX5_init 12 = .ok (.aload_n 0, 1) := by decide +kernel
theorem dX5_init_13 : decode cX5_init 13 = .ok (.bipush 50, 2) := by decide +kernel
theorem dX5_init_15 : decode cX5_init 15 = .ok (.newarray .int, 2) := by decide +kernel
theorem dX5_init_17 : decode cX5_init 17 = .ok (.putfield 15, 3) := by decide +kernel
theorem dX5_init_20 : decode cX5_init 20 = .ok (.return_, 1) := by decide +kernel
theorem dX5_reads_0 : decode cX5_reads 0 = .ok (.aload_n 0, 1) := by decide +kernel
theorem dX5_reads_1 : decode cX5_reads 1 = .ok (.iload_n 2, 1) := by decide +kernel
theorem dX5_reads_2 : decode cX5_reads 2 = .ok (.bipush 50, 2) := by decide +kernel
theorem dX5_reads_4 : decode cX5_reads 4 = .ok (.invokestatic 18, 3) := by decide +kernel
theorem dX5_reads_7 : decode cX5_reads 7 = .ok (.putfield 22, 3) := by decide +kernel
theorem dX5_reads_10 : decode cX5_reads 10 = .ok (.aload_n 1, 1) := by decide +kernel
theorem dX5_reads_11 : decode cX5_reads 11 = .ok (.iconst 0, 1) := by decide +kernel
theorem dX5_reads_12 : decode cX5_reads 12 = .ok (.aload_n 0, 1) := by decide +kernel
theorem dX5_reads_13 : decode cX5_reads 13 = .ok (.getfield 9, 3) := by decide +kernel
theorem dX5_reads_16 : decode cX5_reads 16 = .ok (.iconst 0, 1) := by decide +kernel
theorem dX5_reads_17 : decode cX5_reads 17 = .ok (.aload_n 0, 1) := by decide +kernel
theorem dX5_reads_18 : decode cX5_reads 18 = .ok (.getfield 22, 3) := by decide +kernel
theorem dX5_reads_21 : decode cX5_reads 21 = .ok (.invokestatic 26, 3) := by decide +kernel
theorem dX5_reads_24 : decode cX5_reads 24 = .ok (.aload_n 0, 1) := by decide +kernel
theorem dX5_reads_25 : decode cX5_reads 25 = .ok (.iload_n 3, 1) := by decide +kernel
theorem dX5_reads_26 : decode cX5_reads 26 = .ok (.putfield 32, 3) := by decide +kernel
theorem dX5_reads_29 : decode cX5_reads 29 = .ok (.aload_n 0, 1) := by decide +kernel
theorem dX5_reads_30 : decode cX5_reads 30 = .ok (.iconst 0, 1) := by decide +kernel
theorem dX5_reads_31 : decode cX5_reads 31 = .ok (.putfield 35, 3) := by decide +kernel
theorem dX5_reads_34 : decode cX5_reads 34 = .ok (.aload_n 0, 1) := by decide +kernel
theorem dX5_reads_35 : decode cX5_reads 35 = .ok (.iconst 0, 1) := by decide +kernel
theorem dX5_reads_36 : decode cX5_reads 36 = .ok (.putfield 38, 3) := by decide +kernel
theorem dX5_reads_39 : decode cX5_reads 39 = .ok (.aload_n 0, 1) := by decide +kernel
theorem dX5_reads_40 : decode cX5_reads 40 = .ok (.iconst 0, 1) := by decide +kernel
theorem dX5_reads_41 : decode cX5_reads 41 = .ok (.iconst 0, 1) := by decide +kernel
theorem dX5_reads_42 : decode cX5_reads 42 = .ok (.invokevirtual 41, 3) := by decide +kernel
theorem dX5_reads_45 : decode cX5_reads 45 = .ok (.ifCond .eq 18, 3) := by decide +kernel
theorem dX5_reads_48 : decode cX5_reads 48 = .ok (.aload_n 0, 1) := by decide +kernel
theorem dX5_reads_49 : decode cX5_reads 49 = .ok (.getfield 35, 3) := by decide +kernel
theorem dX5_reads_52 : decode cX5_reads 52 = .ok (.aload_n 0, 1) := by decide +kernel
theorem dX5_reads_53 : decode cX5_reads 53 = .ok (.getfield 22, 3) := by decide +kernel
theorem dX5_reads_56 : decode cX5_reads 56 = .ok (.if_icmp .ne 7, 3) := by decide +kernel
theorem dX5_reads_59 : decode cX5_reads 59 = .ok (.iconst 1, 1) := by decide +kernel
theorem dX5_reads_60 : decode cX5_reads 60 = .ok (.goto 4, 3) := by decide +kernel
theorem dX5_reads_63 : decode cX5_reads 63 = .ok (.iconst 0, 1) := by decide +kernel
theorem dX5_reads_64 : decode cX5_reads 64 = .ok (.ireturn, 1) := by decide +kernel
theorem dX5_readLevel_0 : decode cX5_readLevel 0 = .ok (.iload_n 1, 1) := by decide +kernel
theorem dX5_readLevel_1 : decode cX5_readLevel 1 = .ok (.iconst 5, 1) := by decide +kernel
theorem dX5_readLevel_2 : decode cX5_readLevel 2 = .ok (.if_icmp .lt 9, 3) := by decide +kernel
theorem dX5_readLevel_5 : decode cX5_readLevel 5 = .ok (.aload_n 0, 1) := by decide +kernel
theorem dX5_readLevel_6 : decode cX5_readLevel 6 = .ok (.iload_n 2, 1) := by decide +kernel
theorem dX5_readLevel_7 : decode cX5_readLevel 7 = .ok (.invokevirtual 45, 3) := by decide +kernel
theorem dX5_readLevel_10 : decode cX5_readLevel 10 = .ok (.ireturn, 1) := by decide +kernel
theorem dX5_readLevel_11 : decode cX5_readLevel 11 = .ok (.aload_n 0, 1) := by decide +kernel
theorem dX5_readLevel_12 : decode cX5_readLevel 12 = .ok (.iload_n 1, 1) := by decide +kernel
theorem dX5_readLevel_13 : decode cX5_readLevel 13 = .ok (.iconst 1, 1) := by decide +kernel
theorem dX5_readLevel_14 : decode cX5_readLevel 14 = .ok (.iadd, 1) := by decide +kernel
theorem dX5_readLevel_15 : decode cX5_readLevel 15 = .ok (.iload_n 2, 1) := by decide +kernel
theorem dX5_readLevel_16 : decode cX5_readLevel 16 = .ok (.invokevirtual 41, 3) := by decide +kernel
theorem dX5_readLevel_19 : decode cX5_readLevel 19 = .ok (.ifCond .ne 5, 3) := by decide +kernel
theorem dX5_readLevel_22 : decode cX5_readLevel 22 = .ok (.iconst 0, 1) := by decide +kernel
theorem dX5_readLevel_23 : decode cX5_readLevel 23 = .ok (.ireturn, 1) := by decide +kernel
theorem dX5_readLevel_24 : decode cX5_readLevel 24 = .ok (.iload_n 1, 1) := by decide +kernel
theorem dX5_readLevel_25 : decode cX5_readLevel 25 = .ok (.iconst 2, 1) := by decide +kernel
theorem dX5_readLevel_26 : decode cX5_readLevel 26 = .ok (.if_icmp .ne 7, 3) := by decide +kernel
theorem dX5_readLevel_29 : decode cX5_readLevel 29 = .ok (.iconst 1, 1) := by decide +kernel
theorem dX5_readLevel_30 : decode cX5_readLevel 30 = .ok (.goto 5, 3) := by decide +kernel
theorem dX5_readLevel_33 : decode cX5_readLevel 33 = .ok (.bipush 50, 2) := by decide +kernel
theorem dX5_readLevel_35 : decode cX5_readLevel 35 = .ok (.istore_n 3, 1) := by decide +kernel
theorem dX5_readLevel_36 : decode cX5_readLevel 36 = .ok (.iconst 0, 1) := by decide +kernel
theorem dX5_readLevel_37 : decode cX5_readLevel 37 = .ok (.istore 4, 2) := by decide +kernel
theorem dX5_readLevel_39 : decode cX5_readLevel 39 = .ok (.iload 4, 2) := by decide +kernel
theorem dX5_readLevel_41 : decode cX5_readLevel 41 = .ok (.iload_n 3, 1) := by decide +kernel
theorem dX5_readLevel_42 : decode cX5_readLevel 42 = .ok (.if_icmp .ge 56, 3) := by decide +kernel
theorem dX5_readLevel_45 : decode cX5_readLevel 45 = .ok (.aload_n 0, 1) := by decide +kernel
theorem dX5_readLevel_46 : decode cX5_readLevel 46 = .ok (.invokevirtual 49, 3) := by decide +kernel
theorem dX5_readLevel_49 : decode cX5_readLevel 49 = .ok (.invokestatic 53, 3) := by decide +kernel
theorem dX5_readLevel_52 : decode cX5_readLevel 52 = .ok (.iload_n 1, 1) := by decide +kernel
theorem dX5_readLevel_53 : decode cX5_readLevel 53 = .ok (.if_icmp .ne 45, 3) := by decide +kernel
theorem dX5_readLevel_56 : decode cX5_readLevel 56 = .ok (.aload_n 0, 1) := by decide +kernel
theorem dX5_readLevel_57 : decode cX5_readLevel 57 = .ok (.invokevirtual 49, 3) := by decide +kernel
theorem dX5_readLevel_60 : decode cX5_readLevel 60 = .ok (.istore 5, 2) := by decide +kernel
theorem dX5_readLevel_62 : decode cX5_readLevel 62 = .ok (.aload_n 0, 1) := by decide +kernel
theorem dX5_readLevel_63 : decode cX5_readLevel 63 = .ok (.dup, 1) := by decide +kernel
theorem dX5_readLevel_64 : decode cX5_readLevel 64 = .ok (.getfield 35, 3) := by decide +kernel
theorem dX5_readLevel_67 : decode cX5_readLevel 67 = .ok (.iconst 1, 1) := by decide +kernel
theorem dX5_readLevel_68 : decode cX5_readLevel 68 = .ok (.iadd, 1) := by decide +kernel
theorem dX5_readLevel_69 : decode cX5_readLevel 69 = .ok (.putfield 35, 3) := by decide +kernel
theorem dX5_readLevel_72 : decode cX5_readLevel 72 = .ok (.aload_n 0, 1) := by decide +kernel
theorem dX5_readLevel_73 : decode cX5_readLevel 73 = .ok (.iload_n 1, 1) := by decide +kernel
theorem dX5_readLevel_74 : decode cX5_readLevel 74 = .ok (.iconst 1, 1) := by decide +kernel
theorem dX5_readLevel_75 : decode cX5_readLevel 75 = .ok (.iadd, 1) := by decide +kernel
theorem dX5_readLevel_76 : decode cX5_readLevel 76 = .ok (.iload_n 2, 1) := by decide +kernel
theorem dX5_readLevel_77 : decode cX5_readLevel 77 = .ok (.invokevirtual 41, 3) := by decide +kernel
theorem dX5_readLevel_80 : decode cX5_readLevel 80 = .ok (.ifCond .ne 5, 3) := by decide +kernel
theorem dX5_readLevel_83 : decode cX5_readLevel 83 = .ok (.iconst 0, 1) := by decide +kernel
theorem dX5_readLevel_84 : decode cX5_readLevel 84 = .ok (.ireturn, 1) := by decide +kernel
theorem dX5_readLevel_85 : decode cX5_readLevel 85 = .ok (.aload_n 0, 1) := by decide +kernel
theorem dX5_readLevel_86 : decode cX5_readLevel 86 = .ok (.iload 5, 2) := by decide +kernel
theorem dX5_readLevel_88 : decode cX5_readLevel 88 = .ok (.ineg, 1) := by decide +kernel
theorem dX5_readLevel_89 : decode cX5_readLevel 89 = .ok (.invokevirtual 57, 3) := by decide +kernel
theorem dX5_readLevel_92 : decode cX5_readLevel 92 = .ok (.iinc 4 1, 3) := by decide +kernel
theorem dX5_readLevel_95 : decode cX5_readLevel 95 = .ok (.goto (-56), 3) := by decide +kernel
theorem dX5_readLevel_98 : decode cX5_readLevel 98 = .ok (.iconst 1, 1) := by decide +kernel
theorem dX5_readLevel_99 : decode cX5_readLevel 99 = .ok (.ireturn, 1) := by decide +kernel
theorem dX5_readPart_0 : decode cX5_readPart 0 = .ok (.aload_n 0, 1) := by decide +kernel
theorem dX5_readPart_1 : decode cX5_readPart 1 = .ok (.invokevirtual 49, 3) := by decide +kernel
theorem dX5_readPart_4 : decode cX5_readPart 4 = .ok (.istore_n 2, 1) := by decide +kernel
theorem dX5_readPart_5 : decode cX5_readPart 5 = .ok (.iload_n 2, 1) := by decide +kernel
theorem dX5_readPart_6 : decode cX5_readPart 6 = .ok (.invokestatic 61, 3) := by decide +kernel
theorem dX5_readPart_9 : decode cX5_readPart 9 = .ok (.ifCond .eq 8, 3) := by decide +kernel
theorem dX5_readPart_12 : decode cX5_readPart 12 = .ok (.aload_n 0, 1) := by decide +kernel
theorem dX5_readPart_13 : decode cX5_readPart 13 = .ok (.invokevirtual 64, 3) := by decide +kernel
theorem dX5_readPart_16 : decode cX5_readPart 16 = .ok (.ireturn, 1) := by decide +kernel
theorem dX5_readPart_17 : decode cX5_readPart 17 = .ok (.iload_n 2, 1) := by decide +kernel
theorem dX5_readPart_18 : decode cX5_readPart 18 = .ok (.bipush 33, 2) := by decide +kernel
theorem dX5_readPart_20 : decode cX5_readPart 20 = .ok (.if_icmp .ne 34, 3) := by decide +kernel
theorem dX5_readPart_23 : decode cX5_readPart 23 = .ok (.iload_n 1, 1) := by decide +kernel
theorem dX5_readPart_24 : decode cX5_readPart 24 = .ok (.iconst 5, 1) := by decide +kernel
theorem dX5_readPart_25 : decode cX5_readPart 25 = .ok (.if_icmp .ge 29, 3) := by decide +kernel
theorem dX5_readPart_28 : decode cX5_readPart 28 = .ok (.aload_n 0, 1) := by decide +kernel
theorem dX5_readPart_29 : decode cX5_readPart 29 = .ok (.dup, 1) := by decide +kernel
theorem dX5_readPart_30 : decode cX5_readPart 30 = .ok (.getfield 35, 3) := by decide +kernel
theorem dX5_readPart_33 : decode cX5_readPart 33 = .ok (.iconst 1, 1) := by decide +kernel
theorem dX5_readPart_34 : decode cX5_readPart 34 = .ok (.iadd, 1) := by decide +kernel
theorem dX5_readPart_35 : decode cX5_readPart 35 = .ok (.putfield 35, 3) := by decide +kernel
theorem dX5_readPart_38 : decode cX5_readPart 38 = .ok (.aload_n 0, 1) := by decide +kernel
theorem dX5_readPart_39 : decode cX5_readPart 39 = .ok (.iload_n 1, 1) := by decide +kernel
theorem dX5_readPart_40 : decode cX5_readPart 40 = .ok (.iconst 1, 1) := by decide +kernel
theorem dX5_readPart_41 : decode cX5_readPart 41 = .ok (.iadd, 1) := by decide +kernel
theorem dX5_readPart_42 : decode cX5_readPart 42 = .ok (.invokevirtual 45, 3) := by decide +kernel
theorem dX5_readPart_45 : decode cX5_readPart 45 = .ok (.istore_n 3, 1) := by decide +kernel
theorem dX5_readPart_46 : decode cX5_readPart 46 = .ok (.aload_n 0, 1) := by decide +kernel
theorem dX5_readPart_47 : decode cX5_readPart 47 = .ok (.bipush (-33), 2) := by decide +kernel
theorem dX5_readPart_49 : decode cX5_readPart 49 = .ok (.invokevirtual 57, 3) := by decide +kernel
theorem dX5_readPart_52 : decode cX5_readPart 52 = .ok (.iload_n 3, 1) := by decide +kernel
theorem dX5_readPart_53 : decode cX5_readPart 53 = .ok (.ireturn, 1) := by decide +kernel
theorem dX5_readPart_54 : decode cX5_readPart 54 = .ok (.iload_n 2, 1) := by decide +kernel
theorem dX5_readPart_55 : decode cX5_readPart 55 = .ok (.bipush 40, 2) := by decide +kernel
theorem dX5_readPart_57 : decode cX5_readPart 57 = .ok (.if_icmp .ne 52, 3) := by decide +kernel
theorem dX5_readPart_60 : decode cX5_readPart 60 = .ok (.iload_n 1, 1) := by decide +kernel
theorem dX5_readPart_61 : decode cX5_readPart 61 = .ok (.iconst 5, 1) := by decide +kernel
theorem dX5_readPart_62 : decode cX5_readPart 62 = .ok (.if_icmp .ge 47, 3) := by decide +kernel
theorem dX5_readPart_65 : decode cX5_readPart 65 = .ok (.aload_n 0, 1) := by decide +kernel
theorem dX5_readPart_66 : decode cX5_readPart 66 = .ok (.dup, 1) := by decide +kernel
theorem dX5_readPart_67 : decode cX5_readPart 67 = .ok (.getfield 35, 3) := by decide +kernel
theorem dX5_readPart_70 : decode cX5_readPart 70 = .ok (.iconst 1, 1) := by decide +kernel
theorem dX5_readPart_71 : decode cX5_readPart 71 = .ok (.iadd, 1) := by decide +kernel
theorem dX5_readPart_72 : decode cX5_readPart 72 = .ok (.putfield 35, 3) := by decide +kernel
theorem dX5_readPart_75 : decode cX5_readPart 75 = .ok (.aload_n 0, 1) := by decide +kernel
theorem dX5_readPart_76 : decode cX5_readPart 76 = .ok (.iconst 0, 1) := by decide +kernel
theorem dX5_readPart_77 : decode cX5_readPart 77 = .ok (.iload_n 1, 1) := by decide +kernel
theorem dX5_readPart_78 : decode cX5_readPart 78 = .ok (.iconst 1, 1) := by decide +kernel
theorem dX5_readPart_79 : decode cX5_readPart 79 = .ok (.iadd, 1) := by decide +kernel
theorem dX5_readPart_80 : decode cX5_readPart 80 = .ok (.invokevirtual 41, 3) := by decide +kernel
theorem dX5_readPart_83 : decode cX5_readPart 83 = .ok (.ifCond .eq 12, 3) := by decide +kernel
theorem dX5_readPart_86 : decode cX5_readPart 86 = .ok (.aload_n 0, 1) := by decide +kernel
theorem dX5_readPart_87 : decode cX5_readPart 87 = .ok (.invokevirtual 49, 3) := by decide +kernel
theorem dX5_readPart_90 : decode cX5_readPart 90 = .ok (.bipush 41, 2) := by decide +kernel
theorem dX5_readPart_92 : decode cX5_readPart 92 = .ok (.if_icmp .eq 5, 3) := by decide +kernel
theorem dX5_readPart_95 : decode cX5_readPart 95 = .ok (.iconst 0, 1) := by decide +kernel
theorem dX5_readPart_96 : decode cX5_readPart 96 = .ok (.ireturn, 1) := by decide +kernel
theorem dX5_readPart_97 : decode cX5_readPart 97 = .ok (.aload_n 0, 1) := by decide +kernel
theorem dX5_readPart_98 : decode cX5_readPart 98 = .ok (.dup, 1) := by decide +kernel
theorem dX5_readPart_99 : decode cX5_readPart 99 = .ok (.getfield 35, 3) := by decide +kernel
theorem dX5_readPart_102 : decode cX5_readPart 102 = .ok (.iconst 1, 1) := by decide +kernel
theorem dX5_readPart_103 : decode cX5_readPart 103 = .ok (.iadd, 1) := by decide +kernel
theorem dX5_readPart_104 : decode cX5_readPart 104 = .ok (.putfield 35, 3) := by decide +kernel
theorem dX5_readPart_107 : decode cX5_readPart 107 = .ok (.iconst 1, 1) := by decide +kernel
theorem dX5_readPart_108 : decode cX5_readPart 108 = .ok (.ireturn, 1) := by decide +kernel
theorem dX5_readPart_109 : decode cX5_readPart 109 = .ok (.aload_n 0, 1) := by decide +kernel
theorem dX5_readPart_110 : decode cX5_readPart 110 = .ok (.iload_n 2, 1) := by decide +kernel
theorem dX5_readPart_111 : decode cX5_readPart 111 = .ok (.invokevirtual 68, 3) := by decide +kernel
theorem dX5_readPart_114 : decode cX5_readPart 114 = .ok (.ireturn, 1) := by decide +kernel
theorem dX5_readNumber_0 : decode cX5_readNumber 0 = .ok (.iconst 0, 1) := by decide +kernel
theorem dX5_readNumber_1 : decode cX5_readNumber 1 = .ok (.istore_n 1, 1) := by decide +kernel
theorem dX5_readNumber_2 : decode cX5_readNumber 2 = .ok (.iconst 0, 1) := by decide +kernel
theorem dX5_readNumber_3 : decode cX5_readNumber 3 = .ok (.istore_n 2, 1) := by decide +kernel
theorem dX5_readNumber_4 : decode cX5_readNumber 4 = .ok (.iload_n 2, 1) := by decide +kernel
theorem dX5_readNumber_5 : decode cX5_readNumber 5 = .ok (.iconst 4, 1) := by decide +kernel
theorem dX5_readNumber_6 : decode cX5_readNumber 6 = .ok (.if_icmp .ge 42, 3) := by decide +kernel
theorem dX5_readNumber_9 : decode cX5_readNumber 9 = .ok (.aload_n 0, 1) := by decide +kernel
theorem dX5_readNumber_10 : decode cX5_readNumber 10 = .ok (.invokevirtual 49, 3) := by decide +kernel
theorem dX5_readNumber_13 : decode cX5_readNumber 13 = .ok (.invokestatic 61, 3) := by decide +kernel
theorem dX5_readNumber_16 : decode cX5_readNumber 16 = .ok (.ifCond .eq 32, 3) := by decide +kernel
theorem dX5_readNumber_19 : decode cX5_readNumber 19 = .ok (.iload_n 1, 1) := by decide +kernel
theorem dX5_readNumber_20 : decode cX5_readNumber 20 = .ok (.bipush 10, 2) := by decide +kernel
theorem dX5_readNumber_22 : decode cX5_readNumber 22 = .ok (.imul, 1) := by decide +kernel
theorem dX5_readNumber_23 : decode cX5_readNumber 23 = .ok (.aload_n 0, 1) := by decide +kernel
theorem dX5_readNumber_24 : decode cX5_readNumber 24 = .ok (.invokevirtual 49, 3) := by decide +kernel
theorem dX5_readNumber_27 : decode cX5_readNumber 27 = .ok (.iadd, 1) := by decide +kernel
theorem dX5_readNumber_28 : decode cX5_readNumber 28 = .ok (.bipush 48, 2) := by decide +kernel
theorem dX5_readNumber_30 : decode cX5_readNumber 30 = .ok (.isub, 1) := by decide +kernel
theorem dX5_readNumber_31 : decode cX5_readNumber 31 = .ok (.istore_n 1, 1) := by decide +kernel
theorem dX5_readNumber_32 : decode cX5_readNumber 32 = .ok (.aload_n 0, 1) := by decide +kernel
theorem dX5_readNumber_33 : decode cX5_readNumber 33 = .ok (.dup, 1) := by decide +kernel
theorem dX5_readNumber_34 : decode cX5_readNumber 34 = .ok (.getfield 35, 3) := by decide +kernel
theorem dX5_readNumber_37 : decode cX5_readNumber 37 = .ok (.iconst 1, 1) := by decide +kernel
theorem dX5_readNumber_38 : decode cX5_readNumber 38 = .ok (.iadd, 1) := by decide +kernel
theorem dX5_readNumber_39 : decode cX5_readNumber 39 = .ok (.putfield 35, 3) := by decide +kernel
theorem dX5_readNumber_42 : decode cX5_readNumber 42 = .ok (.iinc 2 1, 3) := by decide +kernel
theorem dX5_readNumber_45 : decode cX5_readNumber 45 = .ok (.goto (-41), 3) := by decide +kernel
theorem dX5_readNumber_48 : decode cX5_readNumber 48 = .ok (.aload_n 0, 1) := by decide +kernel
theorem dX5_readNumber_49 : decode cX5_readNumber 49 = .ok (.iload_n 1, 1) := by decide +kernel
theorem dX5_readNumber_50 : decode cX5_readNumber 50 = .ok (.invokevirtual 57, 3) := by decide +kernel
theorem dX5_readNumber_53 : decode cX5_readNumber 53 = .ok (.iconst 1, 1) := by decide +kernel
theorem dX5_readNumber_54 : decode cX5_readNumber 54 = .ok (.ireturn, 1) := by decide +kernel
theorem dX5_readName_0 : decode cX5_readName 0 = .ok (.iconst 0, 1) := by decide +kernel
theorem dX5_readName_1 : decode cX5_readName 1 = .ok (.istore_n 2, 1) := by decide +kernel
theorem dX5_readName_2 : decode cX5_readName 2 = .ok (.iload_n 2, 1) := by decide +kernel
theorem dX5_readName_3 : decode cX5_readName 3 = .ok (.iconst 3, 1) := by decide +kernel
theorem dX5_readName_4 : decode cX5_readName 4 = .ok (.if_icmp .ge 44, 3) := by decide +kernel
theorem dX5_readName_7 : decode cX5_readName 7 = .ok (.getstatic 71, 3) := by decide +kernel
theorem dX5_readName_10 : decode cX5_readName 10 = .ok (.aload_n 0, 1) := by decide +kernel
theorem dX5_readName_11 : decode cX5_readName 11 = .ok (.getfield 32, 3) := by decide +kernel
theorem dX5_readName_14 : decode cX5_readName 14 = .ok (.iconst 3, 1) := by decide +kernel
theorem dX5_readName_15 : decode cX5_readName 15 = .ok (.imul, 1) := by decide +kernel
theorem dX5_readName_16 : decode cX5_readName 16 = .ok (.iload_n 2, 1) := by decide +kernel
theorem dX5_readName_17 : decode cX5_readName 17 = .ok (.iadd, 1) := by decide +kernel
theorem dX5_readName_18 : decode cX5_readName 18 = .ok (.caload, 1) := by decide +kernel
theorem dX5_readName_19 : decode cX5_readName 19 = .ok (.iload_n 1, 1) := by decide +kernel
theorem dX5_readName_20 : decode cX5_readName 20 = .ok (.if_icmp .ne 22, 3) := by decide +kernel
theorem dX5_readName_23 : decode cX5_readName 23 = .ok (.aload_n 0, 1) := by decide +kernel
theorem dX5_readName_24 : decode cX5_readName 24 = .ok (.dup, 1) := by decide +kernel
theorem dX5_readName_25 : decode cX5_readName 25 = .ok (.getfield 35, 3) := by decide +kernel
theorem dX5_readName_28 : decode cX5_readName 28 = .ok (.iconst 1, 1) := by decide +kernel
theorem dX5_readName_29 : decode cX5_readName 29 = .ok (.iadd, 1) := by decide +kernel
theorem dX5_readName_30 : decode cX5_readName 30 = .ok (.putfield 35, 3) := by decide +kernel
theorem dX5_readName_33 : decode cX5_readName 33 = .ok (.aload_n 0, 1) := by decide +kernel
theorem dX5_readName_34 : decode cX5_readName 34 = .ok (.iconst (-1), 1) := by decide +kernel
theorem dX5_readName_35 : decode cX5_readName 35 = .ok (.iload_n 2, 1) := by decide +kernel
theorem dX5_readName_36 : decode cX5_readName 36 = .ok (.isub, 1) := by decide +kernel
theorem dX5_readName_37 : decode cX5_readName 37 = .ok (.invokevirtual 57, 3) := by decide +kernel
theorem dX5_readName_40 : decode cX5_readName 40 = .ok (.iconst 1, 1) := by decide +kernel
theorem dX5_readName_41 : decode cX5_readName 41 = .ok (.ireturn, 1) := by decide +kernel
theorem dX5_readName_42 : decode cX5_readName 42 = .ok (.iinc 2 1, 3) := by decide +kernel
theorem dX5_readName_45 : decode cX5_readName 45 = .ok (.goto (-43), 3) := by decide +kernel
theorem dX5_readName_48 : decode cX5_readName 48 = .ok (.iconst 0, 1) := by decide +kernel
theorem dX5_readName_49 : decode cX5_readName 49 = .ok (.ireturn, 1) := by decide +kernel
theorem dX5_next_0 : decode cX5_next 0 = .ok (.aload_n 0, 1) := by decide +kernel
theorem dX5_next_1 : decode cX5_next 1 = .ok (.getfield 35, 3) := by decide +kernel
theorem dX5_next_4 : decode cX5_next 4 = .ok (.aload_n 0, 1) := by decide +kernel
theorem dX5_next_5 : decode cX5_next 5 = .ok (.getfield 22, 3) := by decide +kernel
theorem dX5_next_8 : decode cX5_next 8 = .ok (.if_icmp .ge 15, 3) := by decide +kernel
theorem dX5_next_11 : decode cX5_next 11 = .ok (.aload_n 0, 1) := by decide +kernel
theorem dX5_next_12 : decode cX5_next 12 = .ok (.getfield 9, 3) := by decide +kernel
theorem dX5_next_15 : decode cX5_next 15 = .ok (.aload_n 0, 1) := by decide +kernel
theorem dX5_next_16 : decode cX5_next 16 = .ok (.getfield 35, 3) := by decide +kernel
theorem dX5_next_19 : decode cX5_next 19 = .ok (.iaload, 1) := by decide +kernel
theorem dX5_next_20 : decode cX5_next 20 = .ok (.goto 4, 3) := by decide +kernel
theorem dX5_next_23 : decode cX5_next 23 = .ok (.iconst (-1), 1) := by decide +kernel
theorem dX5_next_24 : decode cX5_next 24 = .ok (.ireturn, 1) := by decide +kernel
theorem dX5_add_0 : decode cX5_add 0 = .ok (.aload_n 0, 1) := by decide +kernel
theorem dX5_add_1 : decode cX5_add 1 = .ok (.getfield 38, 3) := by decide +kernel
theorem dX5_add_4 : decode cX5_add 4 = .ok (.bipush 50, 2) := by decide +kernel
theorem dX5_add_6 : decode cX5_add 6 = .ok (.if_icmp .ge 23, 3) := by decide +kernel
theorem dX5_add_9 : decode cX5_add 9 = .ok (.aload_n 0, 1) := by decide +kernel
theorem dX5_add_10 : decode cX5_add 10 = .ok (.getfield 15, 3) := by decide +kernel
theorem dX5_add_13 : decode cX5_add 13 = .ok (.aload_n 0, 1) := by decide +kernel
theorem dX5_add_14 : decode cX5_add 14 = .ok (.getfield 38, 3) := by decide +kernel
theorem dX5_add_17 : decode cX5_add 17 = .ok (.iload_n 1, 1) := by decide +kernel
theorem dX5_add_18 : decode cX5_add 18 = .ok (.iastore, 1) := by decide +kernel
theorem dX5_add_19 : decode cX5_add 19 = .ok (.aload_n 0, 1) := by decide +kernel
theorem dX5_add_20 : decode cX5_add 20 = .ok (.dup, 1) := by decide +kernel
theorem dX5_add_21 : decode cX5_add 21 = .ok (.getfield 38, 3) := by decide +kernel
theorem dX5_add_24 : decode cX5_add 24 = .ok (.iconst 1, 1) := by decide +kernel
theorem dX5_add_25 : decode cX5_add 25 = .ok (.iadd, 1) := by decide +kernel
theorem dX5_add_26 : decode cX5_add 26 = .ok (.putfield 38, 3) := by decide +kernel
theorem dX5_add_29 : decode cX5_add 29 = .ok (.return_, 1) := by decide +kernel
theorem dX5_isDigit_0 : decode cX5_isDigit 0 = .ok (.iload_n 0, 1) := by decide +kernel
theorem dX5_isDigit_1 : decode cX5_isDigit 1 = .ok (.bipush 48, 2) := by decide +kernel
theorem dX5_isDigit_3 : decode cX5_isDigit 3 = .ok (.bipush 57, 2) := by decide +kernel
theorem dX5_isDigit_5 : decode cX5_isDigit 5 = .ok (.invokestatic 75, 3) := by decide +kernel
theorem dX5_isDigit_8 : decode cX5_isDigit 8 = .ok (.ireturn, 1) := by decide +kernel
theorem dX5_levelOf_0 : decode cX5_levelOf 0 = .ok (.iload_n 0, 1) := by decide +kernel
theorem dX5_levelOf_1 : decode cX5_levelOf 1 = .ok (.lookupswitch 101 #[(37, 99), (38, 93), (42, 99), (43, 97), (45, 97), (47, 99), (60, 95), (61, 95), (62, 95), (124, 91)], 91) := by decide +kernel
theorem dX5_levelOf_92 : decode cX5_levelOf 92 = .ok (.iconst 0, 1) := by decide +kernel
theorem dX5_levelOf_93 : decode cX5_levelOf 93 = .ok (.ireturn, 1) := by decide +kernel
theorem dX5_levelOf_94 : decode cX5_levelOf 94 = .ok (.iconst 1, 1) := by decide +kernel
theorem dX5_levelOf_95 : decode cX5_levelOf 95 = .ok (.ireturn, 1) := by decide +kernel
theorem dX5_levelOf_96 : decode cX5_levelOf 96 = .ok (.iconst 2, 1) := by decide +kernel
theorem dX5_levelOf_97 : decode cX5_levelOf 97 = .ok (.ireturn, 1) := by decide +kernel
theorem dX5_levelOf_98 : decode cX5_levelOf 98 = .ok (.iconst 3, 1) := by decide +kernel
theorem dX5_levelOf_99 : decode cX5_levelOf 99 = .ok (.ireturn, 1) := by decide +kernel
theorem dX5_levelOf_100 : decode cX5_levelOf 100 = .ok (.iconst 4, 1) := by decide +kernel
theorem dX5_levelOf_101 : decode cX5_levelOf 101 = .ok (.ireturn, 1) := by decide +kernel
theorem dX5_levelOf_102 : decode cX5_levelOf 102 = .ok (.iconst (-1), 1) := by decide +kernel
theorem dX5_levelOf_103 : decode cX5_levelOf 103 = .ok (.ireturn, 1) := by decide +kernel
theorem dX6_init_0 : decode cX6_init 0 = .ok (.aload_n 0, 1) := by decide +kernel
theorem dX6_init_1 : decode cX6_init 1 = .ok (.invokespecial 3, 3) := by decide +kernel
theorem dX6_init_4 : decode cX6_init 4 = .ok (.aload_n 0, 1) := by decide +kernel
theorem dX6_init_5 : decode cX6_init 5 = .ok (.bipush 40, 2) := by decide +kernel
theorem dX6_init_7 : decode cX6_init 7 = .ok (.newarray .int, 2) := by decide +kernel
theorem dX6_init_9 : decode cX6_init 9 = .ok (.putfield 9, 3) := by decide +kernel
theorem dX6_init_12 : decode cX6_init 12 = .ok (.return_, 1) := by decide +kernel
theorem dX6_begin_0 : decode cX6_begin 0 = .ok (.aload_n 0, 1) := by decide +kernel
theorem dX6_begin_1 : decode cX6_begin 1 = .ok (.iload_n 1, 1) := by decide +kernel
theorem dX6_begin_2 : decode cX6_begin 2 = .ok (.putfield 15, 3) := by decide +kernel
theorem dX6_begin_5 : decode cX6_begin 5 = .ok (.aload_n 0, 1) := by decide +kernel
theorem dX6_begin_6 : decode cX6_begin 6 = .ok (.iload_n 2, 1) := by decide +kernel
theorem dX6_begin_7 : decode cX6_begin 7 = .ok (.bipush 40, 2) := by decide +kernel
theorem dX6_begin_9 : decode cX6_begin 9 = .ok (.invokestatic 19, 3) := by decide +kernel
theorem dX6_begin_12 : decode cX6_begin 12 = .ok (.putfield 23, 3) := by decide +kernel
theorem dX6_begin_15 : decode cX6_begin 15 = .ok (.iconst 0, 1) := by decide +kernel
theorem dX6_begin_16 : decode cX6_begin 16 = .ok (.istore_n 3, 1) := by decide +kernel
theorem dX6_begin_17 : decode cX6_begin 17 = .ok (.iload_n 3, 1) := by decide +kernel
theorem dX6_begin_18 : decode cX6_begin 18 = .ok (.aload_n 0, 1) := by decide +kernel
theorem dX6_begin_19 : decode cX6_begin 19 = .ok (.getfield 23, 3) := by decide +kernel
theorem dX6_begin_22 : decode cX6_begin 22 = .ok (.if_icmp .ge 16, 3) := by decide +kernel
theorem dX6_begin_25 : decode cX6_begin 25 = .ok (.aload_n 0, 1) := by decide +kernel
theorem dX6_begin_26 : decode cX6_begin 26 = .ok (.getfield 9, 3) := by decide +kernel
theorem dX6_begin_29 : decode cX6_begin 29 = .ok (.iload_n 3, 1) := by decide +kernel
theorem dX6_begin_30 : decode cX6_begin 30 = .ok (.iconst 0, 1) := by decide +kernel
theorem dX6_begin_31 : decode cX6_begin 31 = .ok (.iastore, 1) := by decide +kernel
theorem dX6_begin_32 : decode cX6_begin 32 = .ok (.iinc 3 1, 3) := by decide +kernel
theorem dX6_begin_35 : decode cX6_begin 35 = .ok (.goto (-18), 3) := by decide +kernel
theorem dX6_begin_38 : decode cX6_begin 38 = .ok (.return_, 1) := by decide +kernel
theorem dX6_isMissing_0 : decode cX6_isMissing 0 = .ok (.aload_n 0, 1) := by decide +kernel
theorem dX6_isMissing_1 : decode cX6_isMissing 1 = .ok (.getfield 15, 3) := by decide +kernel
theorem dX6_isMissing_4 : decode cX6_isMissing 4 = .ok (.ifCond .ne 7, 3) := by decide +kernel
theorem dX6_isMissing_7 : decode cX6_isMissing 7 = .ok (.iconst 1, 1) := by decide +kernel
theorem dX6_isMissing_8 : decode cX6_isMissing 8 = .ok (.goto 4, 3) := by decide +kernel
theorem dX6_isMissing_11 : decode cX6_isMissing 11 = .ok (.iconst 0, 1) := by decide +kernel
theorem dX6_isMissing_12 : decode cX6_isMissing 12 = .ok (.ireturn, 1) := by decide +kernel
theorem dX6_holds_0 : decode cX6_holds 0 = .ok (.iload_n 1, 1) := by decide +kernel
theorem dX6_holds_1 : decode cX6_holds 1 = .ok (.ifCond .lt 29, 3) := by decide +kernel
theorem dX6_holds_4 : decode cX6_holds 4 = .ok (.iload_n 2, 1) := by decide +kernel
theorem dX6_holds_5 : decode cX6_holds 5 = .ok (.ifCond .lt 25, 3) := by decide +kernel
theorem dX6_holds_8 : decode cX6_holds 8 = .ok (.iload_n 2, 1) := by decide +kernel
theorem dX6_holds_9 : decode cX6_holds 9 = .ok (.aload_n 0, 1) := by decide +kernel
theorem dX6_holds_10 : decode cX6_holds 10 = .ok (.getfield 23, 3) := by decide +kernel
theorem dX6_holds_13 : decode cX6_holds 13 = .ok (.if_icmp .gt 17, 3) := by decide +kernel
theorem dX6_holds_16 : decode cX6_holds 16 = .ok (.iload_n 1, 1) := by decide +kernel
theorem dX6_holds_17 : decode cX6_holds 17 = .ok (.aload_n 0, 1) := by decide +kernel
theorem dX6_holds_18 : decode cX6_holds 18 = .ok (.getfield 23, 3) := by decide +kernel
theorem dX6_holds_21 : decode cX6_holds 21 = .ok (.iload_n 2, 1) := by decide +kernel
theorem dX6_holds_22 : decode cX6_holds 22 = .ok (.isub, 1) := by decide +kernel
theorem dX6_holds_23 : decode cX6_holds 23 = .ok (.if_icmp .gt 7, 3) := by decide +kernel
theorem dX6_holds_26 : decode cX6_holds 26 = .ok (.iconst 1, 1) := by decide +kernel
theorem dX6_holds_27 : decode cX6_holds 27 = .ok (.goto 4, 3) := by decide +kernel
theorem dX6_holds_30 : decode cX6_holds 30 = .ok (.iconst 0, 1) := by decide +kernel
theorem dX6_holds_31 : decode cX6_holds 31 = .ok (.ireturn, 1) := by decide +kernel
theorem dX6_write_0 : decode cX6_write 0 = .ok (.aload_n 0, 1) := by decide +kernel
theorem dX6_write_1 : decode cX6_write 1 = .ok (.getfield 9, 3) := by decide +kernel
theorem dX6_write_4 : decode cX6_write 4 = .ok (.iload_n 1, 1) := by decide +kernel
theorem dX6_write_5 : decode cX6_write 5 = .ok (.aload_n 0, 1) := by decide +kernel
theorem dX6_write_6 : decode cX6_write 6 = .ok (.getfield 15, 3) := by decide +kernel
theorem dX6_write_9 : decode cX6_write 9 = .ok (.bipush 8, 2) := by decide +kernel
theorem dX6_write_11 : decode cX6_write 11 = .ok (.if_icmp .ne 8, 3) := by decide +kernel
theorem dX6_write_14 : decode cX6_write 14 = .ok (.iload_n 2, 1) := by decide +kernel
theorem dX6_write_15 : decode cX6_write 15 = .ok (.i2b, 1) := by decide +kernel
theorem dX6_write_16 : decode cX6_write 16 = .ok (.goto 18, 3) := by decide +kernel
theorem dX6_write_19 : decode cX6_write 19 = .ok (.aload_n 0, 1) := by decide +kernel
theorem dX6_write_20 : decode cX6_write 20 = .ok (.getfield 15, 3) := by decide +kernel
theorem dX6_write_23 : decode cX6_write 23 = .ok (.bipush 16, 2) := by decide +kernel
theorem dX6_write_25 : decode cX6_write 25 = .ok (.if_icmp .ne 8, 3) := by decide +kernel
theorem dX6_write_28 : decode cX6_write 28 = .ok (.iload_n 2, 1) := by decide +kernel
theorem dX6_write_29 : decode cX6_write 29 = .ok (.i2s, 1) := by decide +kernel
theorem dX6_write_30 : decode cX6_write 30 = .ok (.goto 4, 3) := by decide +kernel
theorem dX6_write_33 : decode cX6_write 33 = .ok (.iload_n 2, 1) := by decide +kernel
theorem dX6_write_34 : decode cX6_write 34 = .ok (.iastore, 1) := by decide +kernel
theorem dX6_write_35 : decode cX6_write 35 = .ok (.return_, 1) := by decide +kernel
theorem dX7_init_0 : decode cX7_init 0 = .ok (.aload_n 0, 1) := by decide +kernel
theorem dX7_init_1 : decode cX7_init 1 = .ok (.invokespecial 3, 3) := by decide +kernel
theorem dX7_init_4 : decode cX7_init 4 = .ok (.aload_n 0, 1) := by decide +kernel
theorem dX7_init_5 : decode cX7_init 5 = .ok (.new 9, 3) := by decide +kernel
theorem dX7_init_8 : decode cX7_init 8 = .ok (.dup, 1) := by decide +kernel
theorem dX7_init_9 : decode cX7_init 9 = .ok (.invokespecial 11, 3) := by decide +kernel
theorem dX7_init_12 : decode cX7_init 12 = .ok (.putfield 12, 3) := by decide +kernel
theorem dX7_init_15 : decode cX7_init 15 = .ok (.aload_n 0, 1) := by decide +kernel
theorem dX7_init_16 : decode cX7_init 16 = .ok (.iconst 2, 1) := by decide +kernel
theorem dX7_init_17 : decode cX7_init 17 = .ok (.anewarray 18, 3) := by decide +kernel
theorem dX7_init_20 : decode cX7_init 20 = .ok (.putfield 20, 3) := by decide +kernel
theorem dX7_init_23 : decode cX7_init 23 = .ok (.aload_n 0, 1) := by decide +kernel
theorem dX7_init_24 : decode cX7_init 24 = .ok (.bipush 50, 2) := by decide +kernel
theorem dX7_init_26 : decode cX7_init 26 = .ok (.newarray .int, 2) := by decide +kernel
theorem dX7_init_28 : decode cX7_init 28 = .ok (.putfield 24, 3) := by decide +kernel
theorem dX7_init_31 : decode cX7_init 31 = .ok (.aload_n 0, 1) := by decide +kernel
theorem dX7_init_32 : decode cX7_init 32 = .ok (.bipush 20, 2) := by decide +kernel
theorem dX7_init_34 : decode cX7_init 34 = .ok (.newarray .int, 2) := by decide +kernel
theorem dX7_init_36 : decode cX7_init 36 = .ok (.putfield 28, 3) := by decide +kernel
theorem dX7_init_39 : decode cX7_init 39 = .ok (.aload_n 0, 1) := by decide +kernel
theorem dX7_init_40 : decode cX7_init 40 = .ok (.iconst 1, 1) := by decide +kernel
theorem dX7_init_41 : decode cX7_init 41 = .ok (.putfield 31, 3) := by decide +kernel
theorem dX7_init_44 : decode cX7_init 44 = .ok (.iconst 0, 1) := by decide +kernel
theorem dX7_init_45 : decode cX7_init 45 = .ok (.istore_n 1, 1) := by decide +kernel
theorem dX7_init_46 : decode cX7_init 46 = .ok (.iload_n 1, 1) := by decide +kernel
theorem dX7_init_47 : decode cX7_init 47 = .ok (.iconst 2, 1) := by decide +kernel
theorem dX7_init_48 : decode cX7_init 48 = .ok (.if_icmp .ge 23, 3) := by decide +kernel
theorem dX7_init_51 : decode cX7_init 51 = .ok (.aload_n 0, 1) := by decide +kernel
theorem dX7_init_52 : decode cX7_init 52 = .ok (.getfield 20, 3) := by decide +kernel
theorem dX7_init_55 : decode cX7_init 55 = .ok (.iload_n 1, 1) := by decide +kernel
theorem dX7_init_56 : decode cX7_init 56 = .ok (.new 18, 3) := by decide +kernel
theorem dX7_init_59 : decode cX7_init 59 = .ok (.dup, 1) := by decide +kernel
theorem dX7_init_60 : decode cX7_init 60 = .ok (.iload_n 1, 1) := by decide +kernel
theorem dX7_init_61 : decode cX7_init 61 = .ok (.invokespecial 35, 3) := by decide +kernel
theorem dX7_init_64 : decode cX7_init 64 = .ok (.aastore, 1) := by decide +kernel
theorem dX7_init_65 : decode cX7_init 65 = .ok (.iinc 1 1, 3) := by decide +kernel
theorem dX7_init_68 : decode cX7_init 68 = .ok (.goto (-22), 3) := by decide +kernel
theorem dX7_init_71 : decode cX7_init 71 = .ok (.return_, 1) := by decide +kernel
theorem dX7_copy_0 : decode cX7_copy 0 = .ok (.aload_n 0, 1) := by decide +kernel
theorem dX7_copy_1 : decode cX7_copy 1 = .ok (.getfield 12, 3) := by decide +kernel
theorem dX7_copy_4 : decode cX7_copy 4 = .ok (.aload_n 1, 1) := by decide +kernel
theorem dX7_copy_5 : decode cX7_copy 5 = .ok (.getfield 12, 3) := by decide +kernel
theorem dX7_copy_8 : decode cX7_copy 8 = .ok (.invokevirtual 38, 3) := by decide +kernel
theorem dX7_copy_11 : decode cX7_copy 11 = .ok (.iconst 0, 1) := by decide +kernel
theorem dX7_copy_12 : decode cX7_copy 12 = .ok (.istore_n 2, 1) := by decide +kernel
theorem dX7_copy_13 : decode cX7_copy 13 = .ok (.iload_n 2, 1) := by decide +kernel
theorem dX7_copy_14 : decode cX7_copy 14 = .ok (.iconst 2, 1) := by decide +kernel
theorem dX7_copy_15 : decode cX7_copy 15 = .ok (.if_icmp .ge 36, 3) := by decide +kernel
theorem dX7_copy_18 : decode cX7_copy 18 = .ok (.aload_n 0, 1) := by decide +kernel
theorem dX7_copy_19 : decode cX7_copy 19 = .ok (.getfield 20, 3) := by decide +kernel
theorem dX7_copy_22 : decode cX7_copy 22 = .ok (.iload_n 2, 1) := by decide +kernel
theorem dX7_copy_23 : decode cX7_copy 23 = .ok (.aaload, 1) := by decide +kernel
theorem dX7_copy_24 : decode cX7_copy 24 = .ok (.aload_n 1, 1) := by decide +kernel
theorem dX7_copy_25 : decode cX7_copy 25 = .ok (.getfield 20, 3) := by decide +kernel
theorem dX7_copy_28 : decode cX7_copy 28 = .ok (.iload_n 2, 1) := by decide +kernel
theorem dX7_copy_29 : decode cX7_copy 29 = .ok (.aaload, 1) := by decide +kernel
theorem dX7_copy_30 : decode cX7_copy 30 = .ok (.getfield 42, 3) := by decide +kernel
theorem dX7_copy_33 : decode cX7_copy 33 = .ok (.aload_n 1, 1) := by decide +kernel
theorem dX7_copy_34 : decode cX7_copy 34 = .ok (.getfield 20, 3) := by decide +kernel
theorem dX7_copy_37 : decode cX7_copy 37 = .ok (.iload_n 2, 1) := by decide +kernel
theorem dX7_copy_38 : decode cX7_copy 38 = .ok (.aaload, 1) := by decide +kernel
theorem dX7_copy_39 : decode cX7_copy 39 = .ok (.getfield 45, 3) := by decide +kernel
theorem dX7_copy_42 : decode cX7_copy 42 = .ok (.invokevirtual 48, 3) := by decide +kernel
theorem dX7_copy_45 : decode cX7_copy 45 = .ok (.iinc 2 1, 3) := by decide +kernel
theorem dX7_copy_48 : decode cX7_copy 48 = .ok (.goto (-35), 3) := by decide +kernel
theorem dX7_copy_51 : decode cX7_copy 51 = .ok (.aload_n 1, 1) := by decide +kernel
theorem dX7_copy_52 : decode cX7_copy 52 = .ok (.getfield 24, 3) := by decide +kernel
theorem dX7_copy_55 : decode cX7_copy 55 = .ok (.iconst 0, 1) := by decide +kernel
theorem dX7_copy_56 : decode cX7_copy 56 = .ok (.aload_n 0, 1) := by decide +kernel
theorem dX7_copy_57 : decode cX7_copy 57 = .ok (.getfield 24, 3) := by decide +kernel
theorem dX7_copy_60 : decode cX7_copy 60 = .ok (.iconst 0, 1) := by decide +kernel
theorem dX7_copy_61 : decode cX7_copy 61 = .ok (.bipush 50, 2) := by decide +kernel
theorem dX7_copy_63 : decode cX7_copy 63 = .ok (.invokestatic 52, 3) := by decide +kernel
theorem dX7_copy_66 : decode cX7_copy 66 = .ok (.aload_n 1, 1) := by decide +kernel
theorem dX7_copy_67 : decode cX7_copy 67 = .ok (.getfield 28, 3) := by decide +kernel
theorem dX7_copy_70 : decode cX7_copy 70 = .ok (.iconst 0, 1) := by decide +kernel
theorem dX7_copy_71 : decode cX7_copy 71 = .ok (.aload_n 0, 1) := by decide +kernel
theorem dX7_copy_72 : decode cX7_copy 72 = .ok (.getfield 28, 3) := by decide +kernel
theorem dX7_copy_75 : decode cX7_copy 75 = .ok (.iconst 0, 1) := by decide +kernel
theorem dX7_copy_76 : decode cX7_copy 76 = .ok (.bipush 20, 2) := by decide +kernel
theorem dX7_copy_78 : decode cX7_copy 78 = .ok (.invokestatic 52, 3) := by decide +kernel
theorem dX7_copy_81 : decode cX7_copy 81 = .ok (.aload_n 0, 1) := by decide +kernel
theorem dX7_copy_82 : decode cX7_copy 82 = .ok (.aload_n 1, 1) := by decide +kernel
theorem dX7_copy_83 : decode cX7_copy 83 = .ok (.getfield 58, 3) := by decide +kernel
theorem dX7_copy_86 : decode cX7_copy 86 = .ok (.putfield 58, 3) := by decide +kernel
theorem dX7_copy_89 : decode cX7_copy 89 = .ok (.aload_n 0, 1) := by decide +kernel
theorem dX7_copy_90 : decode cX7_copy 90 = .ok (.aload_n 1, 1) := by decide +kernel
theorem dX7_copy_91 : decode cX7_copy 91 = .ok (.getfield 61, 3) := by decide +kernel
theorem dX7_copy_94 : decode cX7_copy 94 = .ok (.putfield 61, 3) := by decide +kernel
theorem dX7_copy_97 : decode cX7_copy 97 = .ok (.aload_n 0, 1) := by decide +kernel
theorem dX7_copy_98 : decode cX7_copy 98 = .ok (.aload_n 1, 1) := by decide +kernel
theorem dX7_copy_99 : decode cX7_copy 99 = .ok (.getfield 31, 3) := by decide +kernel
theorem dX7_copy_102 : decode cX7_copy 102 = .ok (.putfield 31, 3) := by decide +kernel
theorem dX7_copy_105 : decode cX7_copy 105 = .ok (.return_, 1) := by decide +kernel
theorem dX8_init_0 : decode cX8_init 0 = .ok (.aload_n 0, 1) := by decide +kernel
theorem dX8_init_1 : decode cX8_init 1 = .ok (.invokespecial 3, 3) := by decide +kernel
theorem dX8_init_4 : decode cX8_init 4 = .ok (.aload_n 0, 1) := by decide +kernel
theorem dX8_init_5 : decode cX8_init 5 = .ok (.bipush 40, 2) := by decide +kernel
theorem dX8_init_7 : decode cX8_init 7 = .ok (.newarray .int, 2) := by decide +kernel
theorem dX8_init_9 : decode cX8_init 9 = .ok (.putfield 9, 3) := by decide +kernel
theorem dX8_init_12 : decode cX8_init 12 = .ok (.return_, 1) := by decide +kernel
theorem dX8_speak_0 : decode cX8_speak 0 = .ok (.aload_n 0, 1) := by decide +kernel
theorem dX8_speak_1 : decode cX8_speak 1 = .ok (.aload_n 1, 1) := by decide +kernel
theorem dX8_speak_2 : decode cX8_speak 2 = .ok (.getfield 15, 3) := by decide +kernel
theorem dX8_speak_5 : decode cX8_speak 5 = .ok (.putfield 21, 3) := by decide +kernel
theorem dX8_speak_8 : decode cX8_speak 8 = .ok (.aload_n 0, 1) := by decide +kernel
theorem dX8_speak_9 : decode cX8_speak 9 = .ok (.aload_n 1, 1) := by decide +kernel
theorem dX8_speak_10 : decode cX8_speak 10 = .ok (.getfield 22, 3) := by decide +kernel
theorem dX8_speak_13 : decode cX8_speak 13 = .ok (.putfield 25, 3) := by decide +kernel
theorem dX8_speak_16 : decode cX8_speak 16 = .ok (.aload_n 0, 1) := by decide +kernel
theorem dX8_speak_17 : decode cX8_speak 17 = .ok (.iload_n 2, 1) := by decide +kernel
theorem dX8_speak_18 : decode cX8_speak 18 = .ok (.putfield 26, 3) := by decide +kernel
theorem dX8_speak_21 : decode cX8_speak 21 = .ok (.aload_n 0, 1) := by decide +kernel
theorem dX8_speak_22 : decode cX8_speak 22 = .ok (.iconst 0, 1) := by decide +kernel
theorem dX8_speak_23 : decode cX8_speak 23 = .ok (.putfield 29, 3) := by decide +kernel
theorem dX8_speak_26 : decode cX8_speak 26 = .ok (.aload_n 0, 1) := by decide +kernel
theorem dX8_speak_27 : decode cX8_speak 27 = .ok (.iload_n 3, 1) := by decide +kernel
theorem dX8_speak_28 : decode cX8_speak 28 = .ok (.iload 4, 2) := by decide +kernel
theorem dX8_speak_30 : decode cX8_speak 30 = .ok (.iconst 0, 1) := by decide +kernel
theorem dX8_speak_31 : decode cX8_speak 31 = .ok (.invokevirtual 32, 3) := by decide +kernel
theorem dX8_speak_34 : decode cX8_speak 34 = .ok (.ireturn, 1) := by decide +kernel
theorem dX8_own_0 : decode cX8_own 0 = .ok (.aload_n 0, 1) := by decide +kernel
theorem dX8_own_1 : decode cX8_own 1 = .ok (.aload_n 0, 1) := by decide +kernel
theorem dX8_own_2 : decode cX8_own 2 = .ok (.getfield 21, 3) := by decide +kernel
theorem dX8_own_5 : decode cX8_own 5 = .ok (.iload_n 1, 1) := by decide +kernel
theorem dX8_own_6 : decode cX8_own 6 = .ok (.iload_n 2, 1) := by decide +kernel
theorem dX8_own_7 : decode cX8_own 7 = .ok (.iload_n 3, 1) := by decide +kernel
theorem dX8_own_8 : decode cX8_own 8 = .ok (.invokevirtual 36, 3) := by decide +kernel
theorem dX8_own_11 : decode cX8_own 11 = .ok (.ireturn, 1) := by decide +kernel
theorem dX8_above_0 : decode cX8_above 0 = .ok (.aload_n 0, 1) := by decide +kernel
theorem dX8_above_1 : decode cX8_above 1 = .ok (.getstatic 40, 3) := by decide +kernel
theorem dX8_above_4 : decode cX8_above 4 = .ok (.iload_n 1, 1) := by decide +kernel
theorem dX8_above_5 : decode cX8_above 5 = .ok (.iaload, 1) := by decide +kernel
theorem dX8_above_6 : decode cX8_above 6 = .ok (.iload_n 2, 1) := by decide +kernel
theorem dX8_above_7 : decode cX8_above 7 = .ok (.iload_n 3, 1) := by decide +kernel
theorem dX8_above_8 : decode cX8_above 8 = .ok (.iload 4, 2) := by decide +kernel
theorem dX8_above_10 : decode cX8_above 10 = .ok (.invokevirtual 36, 3) := by decide +kernel
theorem dX8_above_13 : decode cX8_above 13 = .ok (.ireturn, 1) := by decide +kernel
theorem dX8_from_0 : decode cX8_from 0 = .ok (.iload_n 1, 1) := by decide +kernel
theorem dX8_from_1 : decode cX8_from 1 = .ok (.istore 5, 2) := by decide +kernel
theorem dX8_from_3 : decode cX8_from 3 = .ok (.iconst 0, 1) := by decide +kernel
theorem dX8_from_4 : decode cX8_from 4 = .ok (.istore 6, 2) := by decide +kernel
theorem dX8_from_6 : decode cX8_from 6 = .ok (.iload 6, 2) := by decide +kernel
theorem dX8_from_8 : decode cX8_from 8 = .ok (.bipush 7, 2) := by decide +kernel
theorem dX8_from_10 : decode cX8_from 10 = .ok (.if_icmp .ge 68, 3) := by decide +kernel
theorem dX8_from_13 : decode cX8_from 13 = .ok (.iload 5, 2) := by decide +kernel
theorem dX8_from_15 : decode cX8_from 15 = .ok (.iconst 0, 1) := by decide +kernel
theorem dX8_from_16 : decode cX8_from 16 = .ok (.bipush 6, 2) := by decide +kernel
theorem dX8_from_18 : decode cX8_from 18 = .ok (.invokestatic 43, 3) := by decide +kernel
theorem dX8_from_21 : decode cX8_from 21 = .ok (.ifCond .eq 57, 3) := by decide +kernel
theorem dX8_from_24 : decode cX8_from 24 = .ok (.getstatic 47, 3) := by decide +kernel
theorem dX8_from_27 : decode cX8_from 27 = .ok (.iload 5, 2) := by decide +kernel
theorem dX8_from_29 : decode cX8_from 29 = .ok (.iconst 4, 1) := by decide +kernel
theorem dX8_from_30 : decode cX8_from 30 = .ok (.imul, 1) := by decide +kernel
theorem dX8_from_31 : decode cX8_from 31 = .ok (.iload_n 2, 1) := by decide +kernel
theorem dX8_from_32 : decode cX8_from 32 = .ok (.iadd, 1) := by decide +kernel
theorem dX8_from_33 : decode cX8_from 33 = .ok (.iaload, 1) := by decide +kernel
theorem dX8_from_34 : decode cX8_from 34 = .ok (.istore 7, 2) := by decide +kernel
theorem dX8_from_36 : decode cX8_from 36 = .ok (.iload 7, 2) := by decide +kernel
theorem dX8_from_38 : decode cX8_from 38 = .ok (.ifCond .eq 26, 3) := by decide +kernel
theorem dX8_from_41 : decode cX8_from 41 = .ok (.iload 4, 2) := by decide +kernel
theorem dX8_from_43 : decode cX8_from 43 = .ok (.bipush 40, 2) := by decide +kernel
theorem dX8_from_45 : decode cX8_from 45 = .ok (.if_icmp .ge 17, 3) := by decide +kernel
theorem dX8_from_48 : decode cX8_from 48 = .ok (.aload_n 0, 1) := by decide +kernel
theorem dX8_from_49 : decode cX8_from 49 = .ok (.iload 7, 2) := by decide +kernel
theorem dX8_from_51 : decode cX8_from 51 = .ok (.iload_n 3, 1) := by decide +kernel
theorem dX8_from_52 : decode cX8_from 52 = .ok (.iload 4, 2) := by decide +kernel
theorem dX8_from_54 : decode cX8_from 54 = .ok (.iconst 1, 1) := by decide +kernel
theorem dX8_from_55 : decode cX8_from 55 = .ok (.iadd, 1) := by decide +kernel
theorem dX8_from_56 : decode cX8_from 56 = .ok (.invokevirtual 50, 3) := by decide +kernel
theorem dX8_from_59 : decode cX8_from 59 = .ok (.goto 4, 3) := by decide +kernel
theorem dX8_from_62 : decode cX8_from 62 = .ok (.iconst 0, 1) := by decide +kernel
theorem dX8_from_63 : decode cX8_from 63 = .ok (.ireturn, 1) := by decide +kernel
theorem dX8_from_64 : decode cX8_from 64 = .ok (.getstatic 40, 3) := by decide +kernel
theorem dX8_from_67 : decode cX8_from 67 = .ok (.iload 5, 2) := by decide +kernel
theorem dX8_from_69 : decode cX8_from 69 = .ok (.iaload, 1) := by decide +kernel
theorem dX8_from_70 : decode cX8_from 70 = .ok (.istore 5, 2) := by decide +kernel
theorem dX8_from_72 : decode cX8_from 72 = .ok (.iinc 6 1, 3) := by decide +kernel
theorem dX8_from_75 : decode cX8_from 75 = .ok (.goto (-69), 3) := by decide +kernel
theorem dX8_from_78 : decode cX8_from 78 = .ok (.iconst 0, 1) := by decide +kernel
theorem dX8_from_79 : decode cX8_from 79 = .ok (.ireturn, 1) := by decide +kernel
theorem dX8_speakBody_0 : decode cX8_speakBody 0 = .ok (.aload_n 0, 1) := by decide +kernel
theorem dX8_speakBody_1 : decode cX8_speakBody 1 = .ok (.iload_n 1, 1) := by decide +kernel
theorem dX8_speakBody_2 : decode cX8_speakBody 2 = .ok (.invokevirtual 53, 3) := by decide +kernel
theorem dX8_speakBody_5 : decode cX8_speakBody 5 = .ok (.iload_n 1, 1) := by decide +kernel
theorem dX8_speakBody_6 : decode cX8_speakBody 6 = .ok (.lookupswitch 237 #[(10, 98), (11, 105), (12, 115), (13, 122), (20, 138), (30, 149), (40, 166), (50, 176), (60, 193), (70, 204), (71, 219)], 98) := by decide +kernel
theorem dX8_speakBody_104 : decode cX8_speakBody 104 = .ok (.iload_n 2, 1) := by decide +kernel
theorem dX8_speakBody_105 : decode cX8_speakBody 105 = .ok (.aload_n 0, 1) := by decide +kernel
theorem dX8_speakBody_106 : decode cX8_speakBody 106 = .ok (.getfield 26, 3) := by decide +kernel
theorem dX8_speakBody_109 : decode cX8_speakBody 109 = .ok (.iadd, 1) := by decide +kernel
theorem dX8_speakBody_110 : decode cX8_speakBody 110 = .ok (.ireturn, 1) := by decide +kernel
theorem dX8_speakBody_111 : decode cX8_speakBody 111 = .ok (.aload_n 0, 1) := by decide +kernel
theorem dX8_speakBody_112 : decode cX8_speakBody 112 = .ok (.iconst 0, 1) := by decide +kernel
theorem dX8_speakBody_113 : decode cX8_speakBody 113 = .ok (.iload_n 2, 1) := by decide +kernel
theorem dX8_speakBody_114 : decode cX8_speakBody 114 = .ok (.iload_n 3, 1) := by decide +kernel
theorem dX8_speakBody_115 : decode cX8_speakBody 115 = .ok (.invokevirtual 32, 3) := by decide +kernel
theorem dX8_speakBody_118 : decode cX8_speakBody 118 = .ok (.iconst 2, 1) := by decide +kernel
theorem dX8_speakBody_119 : decode cX8_speakBody 119 = .ok (.imul, 1) := by decide +kernel
theorem dX8_speakBody_120 : decode cX8_speakBody 120 = .ok (.ireturn, 1) := by decide +kernel
theorem dX8_speakBody_121 : decode cX8_speakBody 121 = .ok (.iload_n 2, 1) := by decide +kernel
theorem dX8_speakBody_122 : decode cX8_speakBody 122 = .ok (.aload_n 0, 1) := by decide +kernel
theorem dX8_speakBody_123 : decode cX8_speakBody 123 = .ok (.getfield 25, 3) := by decide +kernel
theorem dX8_speakBody_126 : decode cX8_speakBody 126 = .ok (.isub, 1) := by decide +kernel
theorem dX8_speakBody_127 : decode cX8_speakBody 127 = .ok (.ireturn, 1) := by decide +kernel
theorem dX8_speakBody_128 : decode cX8_speakBody 128 = .ok (.aload_n 0, 1) := by decide +kernel
theorem dX8_speakBody_129 : decode cX8_speakBody 129 = .ok (.iconst 1, 1) := by decide +kernel
theorem dX8_speakBody_130 : decode cX8_speakBody 130 = .ok (.iload_n 2, 1) := by decide +kernel
theorem dX8_speakBody_131 : decode cX8_speakBody 131 = .ok (.iload_n 3, 1) := by decide +kernel
theorem dX8_speakBody_132 : decode cX8_speakBody 132 = .ok (.invokevirtual 32, 3) := by decide +kernel
theorem dX8_speakBody_135 : decode cX8_speakBody 135 = .ok (.aload_n 0, 1) := by decide +kernel
theorem dX8_speakBody_136 : decode cX8_speakBody 136 = .ok (.iconst 2, 1) := by decide +kernel
theorem dX8_speakBody_137 : decode cX8_speakBody 137 = .ok (.iload_n 2, 1) := by decide +kernel
theorem dX8_speakBody_138 : decode cX8_speakBody 138 = .ok (.iload_n 3, 1) := by decide +kernel
theorem dX8_speakBody_139 : decode cX8_speakBody 139 = .ok (.invokevirtual 32, 3) := by decide +kernel
theorem dX8_speakBody_142 : decode cX8_speakBody 142 = .ok (.ixor, 1) := by decide +kernel
theorem dX8_speakBody_143 : decode cX8_speakBody 143 = .ok (.ireturn, 1) := by decide +kernel
theorem dX8_speakBody_144 : decode cX8_speakBody 144 = .ok (.aload_n 0, 1) := by decide +kernel
theorem dX8_speakBody_145 : decode cX8_speakBody 145 = .ok (.iconst 1, 1) := by decide +kernel
theorem dX8_speakBody_146 : decode cX8_speakBody 146 = .ok (.iconst 0, 1) := by decide +kernel
theorem dX8_speakBody_147 : decode cX8_speakBody 147 = .ok (.iload_n 2, 1) := by decide +kernel
theorem dX8_speakBody_148 : decode cX8_speakBody 148 = .ok (.iload_n 3, 1) := by decide +kernel
theorem dX8_speakBody_149 : decode cX8_speakBody 149 = .ok (.invokevirtual 57, 3) := by decide +kernel
theorem dX8_speakBody_152 : decode cX8_speakBody 152 = .ok (.iconst 3, 1) := by decide +kernel
theorem dX8_speakBody_153 : decode cX8_speakBody 153 = .ok (.imul, 1) := by decide +kernel
theorem dX8_speakBody_154 : decode cX8_speakBody 154 = .ok (.ireturn, 1) := by decide +kernel
theorem dX8_speakBody_155 : decode cX8_speakBody 155 = .ok (.aload_n 0, 1) := by decide +kernel
theorem dX8_speakBody_156 : decode cX8_speakBody 156 = .ok (.iconst 2, 1) := by decide +kernel
theorem dX8_speakBody_157 : decode cX8_speakBody 157 = .ok (.iconst 1, 1) := by decide +kernel
theorem dX8_speakBody_158 : decode cX8_speakBody 158 = .ok (.iload_n 2, 1) := by decide +kernel
theorem dX8_speakBody_159 : decode cX8_speakBody 159 = .ok (.iload_n 3, 1) := by decide +kernel
theorem dX8_speakBody_160 : decode cX8_speakBody 160 = .ok (.invokevirtual 57, 3) := by decide +kernel
theorem dX8_speakBody_163 : decode cX8_speakBody 163 = .ok (.aload_n 0, 1) := by decide +kernel
theorem dX8_speakBody_164 : decode cX8_speakBody 164 = .ok (.iconst 2, 1) := by decide +kernel
theorem dX8_speakBody_165 : decode cX8_speakBody 165 = .ok (.iconst 1, 1) := by decide +kernel
theorem dX8_speakBody_166 : decode cX8_speakBody 166 = .ok (.iload_n 3, 1) := by decide +kernel
theorem dX8_speakBody_167 : decode cX8_speakBody 167 = .ok (.invokevirtual 32, 3) := by decide +kernel
theorem dX8_speakBody_170 : decode cX8_speakBody 170 = .ok (.isub, 1) := by decide +kernel
theorem dX8_speakBody_171 : decode cX8_speakBody 171 = .ok (.ireturn, 1) := by decide +kernel
theorem dX8_speakBody_172 : decode cX8_speakBody 172 = .ok (.aload_n 0, 1) := by decide +kernel
theorem dX8_speakBody_173 : decode cX8_speakBody 173 = .ok (.iconst 3, 1) := by decide +kernel
theorem dX8_speakBody_174 : decode cX8_speakBody 174 = .ok (.iconst 2, 1) := by decide +kernel
theorem dX8_speakBody_175 : decode cX8_speakBody 175 = .ok (.iload_n 2, 1) := by decide +kernel
theorem dX8_speakBody_176 : decode cX8_speakBody 176 = .ok (.iload_n 3, 1) := by decide +kernel
theorem dX8_speakBody_177 : decode cX8_speakBody 177 = .ok (.invokevirtual 57, 3) := by decide +kernel
theorem dX8_speakBody_180 : decode cX8_speakBody 180 = .ok (.ineg, 1) := by decide +kernel
theorem dX8_speakBody_181 : decode cX8_speakBody 181 = .ok (.ireturn, 1) := by decide +kernel
theorem dX8_speakBody_182 : decode cX8_speakBody 182 = .ok (.aload_n 0, 1) := by decide +kernel
theorem dX8_speakBody_183 : decode cX8_speakBody 183 = .ok (.iconst 4, 1) := by decide +kernel
theorem dX8_speakBody_184 : decode cX8_speakBody 184 = .ok (.iconst 3, 1) := by decide +kernel
theorem dX8_speakBody_185 : decode cX8_speakBody 185 = .ok (.iload_n 2, 1) := by decide +kernel
theorem dX8_speakBody_186 : decode cX8_speakBody 186 = .ok (.iload_n 3, 1) := by decide +kernel
theorem dX8_speakBody_187 : decode cX8_speakBody 187 = .ok (.invokevirtual 57, 3) := by decide +kernel
theorem dX8_speakBody_190 : decode cX8_speakBody 190 = .ok (.aload_n 0, 1) := by decide +kernel
theorem dX8_speakBody_191 : decode cX8_speakBody 191 = .ok (.iconst 0, 1) := by decide +kernel
theorem dX8_speakBody_192 : decode cX8_speakBody 192 = .ok (.iconst 2, 1) := by decide +kernel
theorem dX8_speakBody_193 : decode cX8_speakBody 193 = .ok (.iload_n 3, 1) := by decide +kernel
theorem dX8_speakBody_194 : decode cX8_speakBody 194 = .ok (.invokevirtual 32, 3) := by decide +kernel
theorem dX8_speakBody_197 : decode cX8_speakBody 197 = .ok (.isub, 1) := by decide +kernel
theorem dX8_speakBody_198 : decode cX8_speakBody 198 = .ok (.ireturn, 1) := by decide +kernel
theorem dX8_speakBody_199 : decode cX8_speakBody 199 = .ok (.aload_n 0, 1) := by decide +kernel
theorem dX8_speakBody_200 : decode cX8_speakBody 200 = .ok (.iconst 5, 1) := by decide +kernel
theorem dX8_speakBody_201 : decode cX8_speakBody 201 = .ok (.iconst 1, 1) := by decide +kernel
theorem dX8_speakBody_202 : decode cX8_speakBody 202 = .ok (.iload_n 2, 1) := by decide +kernel
theorem dX8_speakBody_203 : decode cX8_speakBody 203 = .ok (.iconst 1, 1) := by decide +kernel
theorem dX8_speakBody_204 : decode cX8_speakBody 204 = .ok (.iadd, 1) := by decide +kernel
theorem dX8_speakBody_205 : decode cX8_speakBody 205 = .ok (.iload_n 3, 1) := by decide +kernel
theorem dX8_speakBody_206 : decode cX8_speakBody 206 = .ok (.invokevirtual 57, 3) := by decide +kernel
theorem dX8_speakBody_209 : decode cX8_speakBody 209 = .ok (.ireturn, 1) := by decide +kernel
theorem dX8_speakBody_210 : decode cX8_speakBody 210 = .ok (.aload_n 0, 1) := by decide +kernel
theorem dX8_speakBody_211 : decode cX8_speakBody 211 = .ok (.bipush 6, 2) := by decide +kernel
theorem dX8_speakBody_213 : decode cX8_speakBody 213 = .ok (.iconst 2, 1) := by decide +kernel
theorem dX8_speakBody_214 : decode cX8_speakBody 214 = .ok (.iload_n 2, 1) := by decide +kernel
theorem dX8_speakBody_215 : decode cX8_speakBody 215 = .ok (.iload_n 3, 1) := by decide +kernel
theorem dX8_speakBody_216 : decode cX8_speakBody 216 = .ok (.invokevirtual 57, 3) := by decide +kernel
theorem dX8_speakBody_219 : decode cX8_speakBody 219 = .ok (.aload_n 0, 1) := by decide +kernel
theorem dX8_speakBody_220 : decode cX8_speakBody 220 = .ok (.getfield 26, 3) := by decide +kernel
theorem dX8_speakBody_223 : decode cX8_speakBody 223 = .ok (.ixor, 1) := by decide +kernel
theorem dX8_speakBody_224 : decode cX8_speakBody 224 = .ok (.ireturn, 1) := by decide +kernel
theorem dX8_speakBody_225 : decode cX8_speakBody 225 = .ok (.aload_n 0, 1) := by decide +kernel
theorem dX8_speakBody_226 : decode cX8_speakBody 226 = .ok (.iconst 1, 1) := by decide +kernel
theorem dX8_speakBody_227 : decode cX8_speakBody 227 = .ok (.iload_n 2, 1) := by decide +kernel
theorem dX8_speakBody_228 : decode cX8_speakBody 228 = .ok (.iload_n 3, 1) := by decide +kernel
theorem dX8_speakBody_229 : decode cX8_speakBody 229 = .ok (.invokevirtual 32, 3) := by decide +kernel
theorem dX8_speakBody_232 : decode cX8_speakBody 232 = .ok (.aload_n 0, 1) := by decide +kernel
theorem dX8_speakBody_233 : decode cX8_speakBody 233 = .ok (.bipush 6, 2) := by decide +kernel
theorem dX8_speakBody_235 : decode cX8_speakBody 235 = .ok (.iconst 3, 1) := by decide +kernel
theorem dX8_speakBody_236 : decode cX8_speakBody 236 = .ok (.iload_n 2, 1) := by decide +kernel
theorem dX8_speakBody_237 : decode cX8_speakBody 237 = .ok (.iload_n 3, 1) := by decide +kernel
theorem dX8_speakBody_238 : decode cX8_speakBody 238 = .ok (.invokevirtual 57, 3) := by decide +kernel
theorem dX8_speakBody_241 : decode cX8_speakBody 241 = .ok (.isub, 1) := by decide +kernel
theorem dX8_speakBody_242 : decode cX8_speakBody 242 = .ok (.ireturn, 1) := by decide +kernel
theorem dX8_speakBody_243 : decode cX8_speakBody 243 = .ok (.iconst 0, 1) := by decide +kernel
theorem dX8_speakBody_244 : decode cX8_speakBody 244 = .ok (.ireturn, 1) := by decide +kernel
theorem dX8_note_0 : decode cX8_note 0 = .ok (.aload_n 0, 1) := by decide +kernel
theorem dX8_note_1 : decode cX8_note 1 = .ok (.getfield 29, 3) := by decide +kernel
theorem dX8_note_4 : decode cX8_note 4 = .ok (.bipush 40, 2) := by decide +kernel
theorem dX8_note_6 : decode cX8_note 6 = .ok (.if_icmp .ge 23, 3) := by decide +kernel
theorem dX8_note_9 : decode cX8_note 9 = .ok (.aload_n 0, 1) := by decide +kernel
theorem dX8_note_10 : decode cX8_note 10 = .ok (.getfield 9, 3) := by decide +kernel
theorem dX8_note_13 : decode cX8_note 13 = .ok (.aload_n 0, 1) := by decide +kernel
theorem dX8_note_14 : decode cX8_note 14 = .ok (.getfield 29, 3) := by decide +kernel
theorem dX8_note_17 : decode cX8_note 17 = .ok (.iload_n 1, 1) := by decide +kernel
theorem dX8_note_18 : decode cX8_note 18 = .ok (.iastore, 1) := by decide +kernel
theorem dX8_note_19 : decode cX8_note 19 = .ok (.aload_n 0, 1) := by decide +kernel
theorem dX8_note_20 : decode cX8_note 20 = .ok (.dup, 1) := by decide +kernel
theorem dX8_note_21 : decode cX8_note 21 = .ok (.getfield 29, 3) := by decide +kernel
theorem dX8_note_24 : decode cX8_note 24 = .ok (.iconst 1, 1) := by decide +kernel
theorem dX8_note_25 : decode cX8_note 25 = .ok (.iadd, 1) := by decide +kernel
theorem dX8_note_26 : decode cX8_note 26 = .ok (.putfield 29, 3) := by decide +kernel
theorem dX8_note_29 : decode cX8_note 29 = .ok (.return_, 1) := by decide +kernel
theorem dX9_init_0 : decode cX9_init 0 = .ok (.aload_n 0, 1) := by decide +kernel
theorem dX9_init_1 : decode cX9_init 1 = .ok (.invokespecial 1, 3) := by decide +kernel
theorem dX9_init_4 : decode cX9_init 4 = .ok (.aload_n 0, 1) := by decide +kernel
theorem dX9_init_5 : decode cX9_init 5 = .ok (.new 7, 3) := by decide +kernel
theorem dX9_init_8 : decode cX9_init 8 = .ok (.dup, 1) := by decide +kernel
theorem dX9_init_9 : decode cX9_init 9 = .ok (.invokespecial 9, 3) := by decide +kernel
theorem dX9_init_12 : decode cX9_init 12 = .ok (.putfield 10, 3) := by decide +kernel
theorem dX9_init_15 : decode cX9_init 15 = .ok (.aload_n 0, 1) := by decide +kernel
theorem dX9_init_16 : decode cX9_init 16 = .ok (.new 7, 3) := by decide +kernel
theorem dX9_init_19 : decode cX9_init 19 = .ok (.dup, 1) := by decide +kernel
theorem dX9_init_20 : decode cX9_init 20 = .ok (.invokespecial 9, 3) := by decide +kernel
theorem dX9_init_23 : decode cX9_init 23 = .ok (.putfield 16, 3) := by decide +kernel
theorem dX9_init_26 : decode cX9_init 26 = .ok (.aload_n 0, 1) := by decide +kernel
theorem dX9_init_27 : decode cX9_init 27 = .ok (.new 19, 3) := by decide +kernel
theorem dX9_init_30 : decode cX9_init 30 = .ok (.dup, 1) := by decide +kernel
theorem dX9_init_31 : decode cX9_init 31 = .ok (.invokespecial 21, 3) := by decide +kernel
theorem dX9_init_34 : decode cX9_init 34 = .ok (.putfield 22, 3) := by decide +kernel
theorem dX9_init_37 : decode cX9_init 37 = .ok (.aload_n 0, 1) := by decide +kernel
theorem dX9_init_38 : decode cX9_init 38 = .ok (.new 26, 3) := by decide +kernel
theorem dX9_init_41 : decode cX9_init 41 = .ok (.dup, 1) := by decide +kernel
theorem dX9_init_42 : decode cX9_init 42 = .ok (.invokespecial 28, 3) := by decide +kernel
theorem dX9_init_45 : decode cX9_init 45 = .ok (.putfield 29, 3) := by decide +kernel
theorem dX9_init_48 : decode cX9_init 48 = .ok (.aload_n 0, 1) := by decide +kernel
theorem dX9_init_49 : decode cX9_init 49 = .ok (.new 33, 3) := by decide +kernel
theorem dX9_init_52 : decode cX9_init 52 = .ok (.dup, 1) := by decide +kernel
theorem dX9_init_53 : decode cX9_init 53 = .ok (.invokespecial 35, 3) := by decide +kernel
theorem dX9_init_56 : decode cX9_init 56 = .ok (.putfield 36, 3) := by decide +kernel
theorem dX9_init_59 : decode cX9_init 59 = .ok (.aload_n 0, 1) := by decide +kernel
theorem dX9_init_60 : decode cX9_init 60 = .ok (.iconst 4, 1) := by decide +kernel
theorem dX9_init_61 : decode cX9_init 61 = .ok (.anewarray 40, 3) := by decide +kernel
theorem dX9_init_64 : decode cX9_init 64 = .ok (.putfield 42, 3) := by decide +kernel
theorem dX9_init_67 : decode cX9_init 67 = .ok (.aload_n 0, 1) := by decide +kernel
theorem dX9_init_68 : decode cX9_init 68 = .ok (.bipush 6, 2) := by decide +kernel
theorem dX9_init_70 : decode cX9_init 70 = .ok (.newarray .int, 2) := by decide +kernel
theorem dX9_init_72 : decode cX9_init 72 = .ok (.putfield 46, 3) := by decide +kernel
theorem dX9_init_75 : decode cX9_init 75 = .ok (.aload_n 0, 1) := by decide +kernel
theorem dX9_init_76 : decode cX9_init 76 = .ok (.iconst 5, 1) := by decide +kernel
theorem dX9_init_77 : decode cX9_init 77 = .ok (.newarray .int, 2) := by decide +kernel
theorem dX9_init_79 : decode cX9_init 79 = .ok (.putfield 50, 3) := by decide +kernel
theorem dX9_init_82 : decode cX9_init 82 = .ok (.aload_n 0, 1) := by decide +kernel
theorem dX9_init_83 : decode cX9_init 83 = .ok (.iconst 5, 1) := by decide +kernel
theorem dX9_init_84 : decode cX9_init 84 = .ok (.newarray .int, 2) := by decide +kernel
theorem dX9_init_86 : decode cX9_init 86 = .ok (.putfield 53, 3) := by decide +kernel
theorem dX9_init_89 : decode cX9_init 89 = .ok (.iconst 0, 1) := by decide +kernel
theorem dX9_init_90 : decode cX9_init 90 = .ok (.istore_n 1, 1) := by decide +kernel
theorem dX9_init_91 : decode cX9_init 91 = .ok (.iload_n 1, 1) := by decide +kernel
theorem dX9_init_92 : decode cX9_init 92 = .ok (.iconst 4, 1) := by decide +kernel
theorem dX9_init_93 : decode cX9_init 93 = .ok (.if_icmp .ge 22, 3) := by decide +kernel
theorem dX9_init_96 : decode cX9_init 96 = .ok (.aload_n 0, 1) := by decide +kernel
theorem dX9_init_97 : decode cX9_init 97 = .ok (.getfield 42, 3) := by decide +kernel
theorem dX9_init_100 : decode cX9_init 100 = .ok (.iload_n 1, 1) := by decide +kernel
theorem dX9_init_101 : decode cX9_init 101 = .ok (.new 40, 3) := by decide +kernel
theorem dX9_init_104 : decode cX9_init 104 = .ok (.dup, 1) := by decide +kernel
theorem dX9_init_105 : decode cX9_init 105 = .ok (.invokespecial 56, 3) := by decide +kernel
theorem dX9_init_108 : decode cX9_init 108 = .ok (.aastore, 1) := by decide +kernel
theorem dX9_init_109 : decode cX9_init 109 = .ok (.iinc 1 1, 3) := by decide +kernel
theorem dX9_init_112 : decode cX9_init 112 = .ok (.goto (-21), 3) := by decide +kernel
theorem dX9_init_115 : decode cX9_init 115 = .ok (.return_, 1) := by decide +kernel
theorem dX9_ash_0 : decode cX9_ash 0 = .ok (.aload_n 0, 1) := by decide +kernel
theorem dX9_ash_1 : decode cX9_ash 1 = .ok (.getfield 10, 3) := by decide +kernel
theorem dX9_ash_4 : decode cX9_ash 4 = .ok (.getfield 57, 3) := by decide +kernel
theorem dX9_ash_7 : decode cX9_ash 7 = .ok (.astore_n 2, 1) := by decide +kernel
theorem dX9_ash_8 : decode cX9_ash 8 = .ok (.iload_n 1, 1) := by decide +kernel
theorem dX9_ash_9 : decode cX9_ash 9 = .ok (.invokestatic 60, 3) := by decide +kernel
theorem dX9_ash_12 : decode cX9_ash 12 = .ok (.ifCond .ne 9, 3) := by decide +kernel
theorem dX9_ash_15 : decode cX9_ash 15 = .ok (.aload_n 0, 1) := by decide +kernel
theorem dX9_ash_16 : decode cX9_ash 16 = .ok (.iconst 1, 1) := by decide +kernel
theorem dX9_ash_17 : decode cX9_ash 17 = .ok (.invokevirtual 64, 3) := by decide +kernel
theorem dX9_ash_20 : decode cX9_ash 20 = .ok (.ireturn, 1) := by decide +kernel
theorem dX9_ash_21 : decode cX9_ash 21 = .ok (.aload_n 2, 1) := by decide +kernel
theorem dX9_ash_22 : decode cX9_ash 22 = .ok (.getfield 68, 3) := by decide +kernel
theorem dX9_ash_25 : decode cX9_ash 25 = .ok (.iconst 5, 1) := by decide +kernel
theorem dX9_ash_26 : decode cX9_ash 26 = .ok (.if_icmp .lt 9, 3) := by decide +kernel
theorem dX9_ash_29 : decode cX9_ash 29 = .ok (.aload_n 0, 1) := by decide +kernel
theorem dX9_ash_30 : decode cX9_ash 30 = .ok (.iconst 4, 1) := by decide +kernel
theorem dX9_ash_31 : decode cX9_ash 31 = .ok (.invokevirtual 64, 3) := by decide +kernel
theorem dX9_ash_34 : decode cX9_ash 34 = .ok (.ireturn, 1) := by decide +kernel
theorem dX9_ash_35 : decode cX9_ash 35 = .ok (.aload_n 2, 1) := by decide +kernel
theorem dX9_ash_36 : decode cX9_ash 36 = .ok (.getfield 72, 3) := by decide +kernel
theorem dX9_ash_39 : decode cX9_ash 39 = .ok (.aload_n 2, 1) := by decide +kernel
theorem dX9_ash_40 : decode cX9_ash 40 = .ok (.getfield 68, 3) := by decide +kernel
theorem dX9_ash_43 : decode cX9_ash 43 = .ok (.aaload, 1) := by decide +kernel
theorem dX9_ash_44 : decode cX9_ash 44 = .ok (.iload_n 1, 1) := by decide +kernel
theorem dX9_ash_45 : decode cX9_ash 45 = .ok (.invokevirtual 76, 3) := by decide +kernel
theorem dX9_ash_48 : decode cX9_ash 48 = .ok (.aload_n 2, 1) := by decide +kernel
theorem dX9_ash_49 : decode cX9_ash 49 = .ok (.dup, 1) := by decide +kernel
theorem dX9_ash_50 : decode cX9_ash 50 = .ok (.getfield 68, 3) := by decide +kernel
theorem dX9_ash_53 : decode cX9_ash 53 = .ok (.iconst 1, 1) := by decide +kernel
theorem dX9_ash_54 : decode cX9_ash 54 = .ok (.iadd, 1) := by decide +kernel
theorem dX9_ash_55 : decode cX9_ash 55 = .ok (.putfield 68, 3) := by decide +kernel
theorem dX9_ash_58 : decode cX9_ash 58 = .ok (.aload_n 2, 1) := by decide +kernel
theorem dX9_ash_59 : decode cX9_ash 59 = .ok (.getfield 68, 3) := by decide +kernel
theorem dX9_ash_62 : decode cX9_ash 62 = .ok (.iconst 1, 1) := by decide +kernel
theorem dX9_ash_63 : decode cX9_ash 63 = .ok (.isub, 1) := by decide +kernel
theorem dX9_ash_64 : decode cX9_ash 64 = .ok (.ireturn, 1) := by decide +kernel
theorem dX9_ofAsh_0 : decode cX9_ofAsh 0 = .ok (.aload_n 0, 1) := by decide +kernel
theorem dX9_ofAsh_1 : decode cX9_ofAsh 1 = .ok (.getfield 10, 3) := by decide +kernel
theorem dX9_ofAsh_4 : decode cX9_ofAsh 4 = .ok (.getfield 57, 3) := by decide +kernel
theorem dX9_ofAsh_7 : decode cX9_ofAsh 7 = .ok (.iload_n 1, 1) := by decide +kernel
theorem dX9_ofAsh_8 : decode cX9_ofAsh 8 = .ok (.invokevirtual 82, 3) := by decide +kernel
theorem dX9_ofAsh_11 : decode cX9_ofAsh 11 = .ok (.ifCond .ne 9, 3) := by decide +kernel
theorem dX9_ofAsh_14 : decode cX9_ofAsh 14 = .ok (.aload_n 0, 1) := by decide +kernel
theorem dX9_ofAsh_15 : decode cX9_ofAsh 15 = .ok (.iconst 1, 1) := by decide +kernel
theorem dX9_ofAsh_16 : decode cX9_ofAsh 16 = .ok (.invokevirtual 64, 3) := by decide +kernel
theorem dX9_ofAsh_19 : decode cX9_ofAsh 19 = .ok (.ireturn, 1) := by decide +kernel
theorem dX9_ofAsh_20 : decode cX9_ofAsh 20 = .ok (.aload_n 0, 1) := by decide +kernel
theorem dX9_ofAsh_21 : decode cX9_ofAsh 21 = .ok (.getfield 10, 3) := by decide +kernel
theorem dX9_ofAsh_24 : decode cX9_ofAsh 24 = .ok (.getfield 57, 3) := by decide +kernel
theorem dX9_ofAsh_27 : decode cX9_ofAsh 27 = .ok (.getfield 72, 3) := by decide +kernel
theorem dX9_ofAsh_30 : decode cX9_ofAsh 30 = .ok (.iload_n 1, 1) := by decide +kernel
theorem dX9_ofAsh_31 : decode cX9_ofAsh 31 = .ok (.aaload, 1) := by decide +kernel
theorem dX9_ofAsh_32 : decode cX9_ofAsh 32 = .ok (.astore_n 3, 1) := by decide +kernel
theorem dX9_ofAsh_33 : decode cX9_ofAsh 33 = .ok (.iload_n 2, 1) := by decide +kernel
theorem dX9_ofAsh_34 : decode cX9_ofAsh 34 = .ok (.tableswitch 66 0 4 #[34, 39, 44, 49, 54], 34) := by decide +kernel
theorem dX9_ofAsh_68 : decode cX9_ofAsh 68 = .ok (.aload_n 3, 1) := by decide +kernel
theorem dX9_ofAsh_69 : decode cX9_ofAsh 69 = .ok (.getfield 85, 3) := by decide +kernel
theorem dX9_ofAsh_72 : decode cX9_ofAsh 72 = .ok (.ireturn, 1) := by decide +kernel
theorem dX9_ofAsh_73 : decode cX9_ofAsh 73 = .ok (.aload_n 3, 1) := by decide +kernel
theorem dX9_ofAsh_74 : decode cX9_ofAsh 74 = .ok (.getfield 88, 3) := by decide +kernel
theorem dX9_ofAsh_77 : decode cX9_ofAsh 77 = .ok (.ireturn, 1) := by decide +kernel
theorem dX9_ofAsh_78 : decode cX9_ofAsh 78 = .ok (.aload_n 3, 1) := by decide +kernel
theorem dX9_ofAsh_79 : decode cX9_ofAsh 79 = .ok (.getfield 91, 3) := by decide +kernel
theorem dX9_ofAsh_82 : decode cX9_ofAsh 82 = .ok (.ireturn, 1) := by decide +kernel
theorem dX9_ofAsh_83 : decode cX9_ofAsh 83 = .ok (.aload_n 3, 1) := by decide +kernel
theorem dX9_ofAsh_84 : decode cX9_ofAsh 84 = .ok (.getfield 94, 3) := by decide +kernel
theorem dX9_ofAsh_87 : decode cX9_ofAsh 87 = .ok (.ireturn, 1) := by decide +kernel
theorem dX9_ofAsh_88 : decode cX9_ofAsh 88 = .ok (.aload_n 0, 1) := by decide +kernel
theorem dX9_ofAsh_89 : decode cX9_ofAsh 89 = .ok (.getfield 10, 3) := by decide +kernel
theorem dX9_ofAsh_92 : decode cX9_ofAsh 92 = .ok (.getfield 57, 3) := by decide +kernel
theorem dX9_ofAsh_95 : decode cX9_ofAsh 95 = .ok (.iload_n 1, 1) := by decide +kernel
theorem dX9_ofAsh_96 : decode cX9_ofAsh 96 = .ok (.invokevirtual 97, 3) := by decide +kernel
theorem dX9_ofAsh_99 : decode cX9_ofAsh 99 = .ok (.ireturn, 1) := by decide +kernel
theorem dX9_ofAsh_100 : decode cX9_ofAsh 100 = .ok (.aload_n 0, 1) := by decide +kernel
theorem dX9_ofAsh_101 : decode cX9_ofAsh 101 = .ok (.iconst 1, 1) := by decide +kernel
theorem dX9_ofAsh_102 : decode cX9_ofAsh 102 = .ok (.invokevirtual 64, 3) := by decide +kernel
theorem dX9_ofAsh_105 : decode cX9_ofAsh 105 = .ok (.ireturn, 1) := by decide +kernel
theorem dX9_hedge_0 : decode cX9_hedge 0 = .ok (.aload_n 0, 1) := by decide +kernel
theorem dX9_hedge_1 : decode cX9_hedge 1 = .ok (.getfield 10, 3) := by decide +kernel
theorem dX9_hedge_4 : decode cX9_hedge 4 = .ok (.getfield 57, 3) := by decide +kernel
theorem dX9_hedge_7 : decode cX9_hedge 7 = .ok (.iload_n 1, 1) := by decide +kernel
theorem dX9_hedge_8 : decode cX9_hedge 8 = .ok (.invokevirtual 82, 3) := by decide +kernel
theorem dX9_hedge_11 : decode cX9_hedge 11 = .ok (.ifCond .eq 30, 3) := by decide +kernel
theorem dX9_hedge_14 : decode cX9_hedge 14 = .ok (.iload_n 2, 1) := by decide +kernel
theorem dX9_hedge_15 : decode cX9_hedge 15 = .ok (.iconst 0, 1) := by decide +kernel
theorem dX9_hedge_16 : decode cX9_hedge 16 = .ok (.iconst 1, 1) := by decide +kernel
theorem dX9_hedge_17 : decode cX9_hedge 17 = .ok (.invokestatic 100, 3) := by decide +kernel
theorem dX9_hedge_20 : decode cX9_hedge 20 = .ok (.ifCond .eq 21, 3) := by decide +kernel
theorem dX9_hedge_23 : decode cX9_hedge 23 = .ok (.iload_n 3, 1) := by decide +kernel
theorem dX9_hedge_24 : decode cX9_hedge 24 = .ok (.iconst 0, 1) := by decide +kernel
theorem dX9_hedge_25 : decode cX9_hedge 25 = .ok (.iload_n 2, 1) := by decide +kernel
theorem dX9_hedge_26 : decode cX9_hedge 26 = .ok (.ifCond .ne 8, 3) := by decide +kernel
theorem dX9_hedge_29 : decode cX9_hedge 29 = .ok (.bipush 9, 2) := by decide +kernel
theorem dX9_hedge_31 : decode cX9_hedge 31 = .ok (.goto 4, 3) := by decide +kernel
theorem dX9_hedge_34 : decode cX9_hedge 34 = .ok (.iconst 3, 1) := by decide +kernel
theorem dX9_hedge_35 : decode cX9_hedge 35 = .ok (.invokestatic 100, 3) := by decide +kernel
theorem dX9_hedge_38 : decode cX9_hedge 38 = .ok (.ifCond .ne 9, 3) := by decide +kernel
theorem dX9_hedge_41 : decode cX9_hedge 41 = .ok (.aload_n 0, 1) := by decide +kernel
theorem dX9_hedge_42 : decode cX9_hedge 42 = .ok (.iconst 1, 1) := by decide +kernel
theorem dX9_hedge_43 : decode cX9_hedge 43 = .ok (.invokevirtual 64, 3) := by decide +kernel
theorem dX9_hedge_46 : decode cX9_hedge 46 = .ok (.ireturn, 1) := by decide +kernel
theorem dX9_hedge_47 : decode cX9_hedge 47 = .ok (.aload_n 0, 1) := by decide +kernel
theorem dX9_hedge_48 : decode cX9_hedge 48 = .ok (.getfield 10, 3) := by decide +kernel
theorem dX9_hedge_51 : decode cX9_hedge 51 = .ok (.getfield 57, 3) := by decide +kernel
theorem dX9_hedge_54 : decode cX9_hedge 54 = .ok (.getfield 72, 3) := by decide +kernel
theorem dX9_hedge_57 : decode cX9_hedge 57 = .ok (.iload_n 1, 1) := by decide +kernel
theorem dX9_hedge_58 : decode cX9_hedge 58 = .ok (.aaload, 1) := by decide +kernel
theorem dX9_hedge_59 : decode cX9_hedge 59 = .ok (.astore 4, 2) := by decide +kernel
theorem dX9_hedge_61 : decode cX9_hedge 61 = .ok (.iload_n 2, 1) := by decide +kernel
theorem dX9_hedge_62 : decode cX9_hedge 62 = .ok (.ifCond .ne 19, 3) := by decide +kernel
theorem dX9_hedge_65 : decode cX9_hedge 65 = .ok (.aload 4, 2) := by decide +kernel
theorem dX9_hedge_67 : decode cX9_hedge 67 = .ok (.getfield 91, 3) := by decide +kernel
theorem dX9_hedge_70 : decode cX9_hedge 70 = .ok (.istore 5, 2) := by decide +kernel
theorem dX9_hedge_72 : decode cX9_hedge 72 = .ok (.aload 4, 2) := by decide +kernel
theorem dX9_hedge_74 : decode cX9_hedge 74 = .ok (.iload_n 3, 1) := by decide +kernel
theorem dX9_hedge_75 : decode cX9_hedge 75 = .ok (.putfield 91, 3) := by decide +kernel
theorem dX9_hedge_78 : decode cX9_hedge 78 = .ok (.goto 16, 3) := by decide +kernel
theorem dX9_hedge_81 : decode cX9_hedge 81 = .ok (.aload 4, 2) := by decide +kernel
theorem dX9_hedge_83 : decode cX9_hedge 83 = .ok (.getfield 94, 3) := by decide +kernel
theorem dX9_hedge_86 : decode cX9_hedge 86 = .ok (.istore 5, 2) := by decide +kernel
theorem dX9_hedge_88 : decode cX9_hedge 88 = .ok (.aload 4, 2) := by decide +kernel
theorem dX9_hedge_90 : decode cX9_hedge 90 = .ok (.iload_n 3, 1) := by decide +kernel
theorem dX9_hedge_91 : decode cX9_hedge 91 = .ok (.putfield 94, 3) := by decide +kernel
theorem dX9_hedge_94 : decode cX9_hedge 94 = .ok (.iload 5, 2) := by decide +kernel
theorem dX9_hedge_96 : decode cX9_hedge 96 = .ok (.ireturn, 1) := by decide +kernel
theorem dX9_become_0 : decode cX9_become 0 = .ok (.aload_n 0, 1) := by decide +kernel
theorem dX9_become_1 : decode cX9_become 1 = .ok (.getfield 10, 3) := by decide +kernel
theorem dX9_become_4 : decode cX9_become 4 = .ok (.getfield 57, 3) := by decide +kernel
theorem dX9_become_7 : decode cX9_become 7 = .ok (.iload_n 1, 1) := by decide +kernel
theorem dX9_become_8 : decode cX9_become 8 = .ok (.invokevirtual 82, 3) := by decide +kernel
theorem dX9_become_11 : decode cX9_become 11 = .ok (.ifCond .eq 10, 3) := by decide +kernel
theorem dX9_become_14 : decode cX9_become 14 = .ok (.iload_n 2, 1) := by decide +kernel
theorem dX9_become_15 : decode cX9_become 15 = .ok (.invokestatic 60, 3) := by decide +kernel
theorem dX9_become_18 : decode cX9_become 18 = .ok (.ifCond .ne 9, 3) := by decide +kernel
theorem dX9_become_21 : decode cX9_become 21 = .ok (.aload_n 0, 1) := by decide +kernel
theorem dX9_become_22 : decode cX9_become 22 = .ok (.iconst 1, 1) := by decide +kernel
theorem dX9_become_23 : decode cX9_become 23 = .ok (.invokevirtual 64, 3) := by decide +kernel
theorem dX9_become_26 : decode cX9_become 26 = .ok (.ireturn, 1) := by decide +kernel
theorem dX9_become_27 : decode cX9_become 27 = .ok (.aload_n 0, 1) := by decide +kernel
theorem dX9_become_28 : decode cX9_become 28 = .ok (.getfield 10, 3) := by decide +kernel
theorem dX9_become_31 : decode cX9_become 31 = .ok (.getfield 57, 3) := by decide +kernel
theorem dX9_become_34 : decode cX9_become 34 = .ok (.getfield 72, 3) := by decide +kernel
theorem dX9_become_37 : decode cX9_become 37 = .ok (.iload_n 1, 1) := by decide +kernel
theorem dX9_become_38 : decode cX9_become 38 = .ok (.aaload, 1) := by decide +kernel
theorem dX9_become_39 : decode cX9_become 39 = .ok (.astore_n 3, 1) := by decide +kernel
theorem dX9_become_40 : decode cX9_become 40 = .ok (.aload_n 3, 1) := by decide +kernel
theorem dX9_become_41 : decode cX9_become 41 = .ok (.getfield 85, 3) := by decide +kernel
theorem dX9_become_44 : decode cX9_become 44 = .ok (.istore 4, 2) := by decide +kernel
theorem dX9_become_46 : decode cX9_become 46 = .ok (.aload_n 3, 1) := by decide +kernel
theorem dX9_become_47 : decode cX9_become 47 = .ok (.iload_n 2, 1) := by decide +kernel
theorem dX9_become_48 : decode cX9_become 48 = .ok (.bipush 10, 2) := by decide +kernel
theorem dX9_become_50 : decode cX9_become 50 = .ok (.idiv, 1) := by decide +kernel
theorem dX9_become_51 : decode cX9_become 51 = .ok (.putfield 85, 3) := by decide +kernel
theorem dX9_become_54 : decode cX9_become 54 = .ok (.aload_n 3, 1) := by decide +kernel
theorem dX9_become_55 : decode cX9_become 55 = .ok (.iload_n 2, 1) := by decide +kernel
theorem dX9_become_56 : decode cX9_become 56 = .ok (.bipush 10, 2) := by decide +kernel
theorem dX9_become_58 : decode cX9_become 58 = .ok (.irem, 1) := by decide +kernel
theorem dX9_become_59 : decode cX9_become 59 = .ok (.putfield 88, 3) := by decide +kernel
theorem dX9_become_62 : decode cX9_become 62 = .ok (.iload 4, 2) := by decide +kernel
theorem dX9_become_64 : decode cX9_become 64 = .ok (.ireturn, 1) := by decide +kernel
theorem dX9_as_0 : decode cX9_as 0 = .ok (.aload_n 0, 1) := by decide +kernel
theorem dX9_as_1 : decode cX9_as 1 = .ok (.getfield 10, 3) := by decide +kernel
theorem dX9_as_4 : decode cX9_as 4 = .ok (.getfield 57, 3) := by decide +kernel
theorem dX9_as_7 : decode cX9_as 7 = .ok (.iload_n 1, 1) := by decide +kernel
theorem dX9_as_8 : decode cX9_as 8 = .ok (.invokevirtual 82, 3) := by decide +kernel
theorem dX9_as_11 : decode cX9_as 11 = .ok (.ifCond .eq 13, 3) := by decide +kernel
theorem dX9_as_14 : decode cX9_as 14 = .ok (.iload_n 2, 1) := by decide +kernel
theorem dX9_as_15 : decode cX9_as 15 = .ok (.iconst 0, 1) := by decide +kernel
theorem dX9_as_16 : decode cX9_as 16 = .ok (.bipush 6, 2) := by decide +kernel
theorem dX9_as_18 : decode cX9_as 18 = .ok (.invokestatic 100, 3) := by decide +kernel
theorem dX9_as_21 : decode cX9_as 21 = .ok (.ifCond .ne 9, 3) := by decide +kernel
theorem dX9_as_24 : decode cX9_as 24 = .ok (.aload_n 0, 1) := by decide +kernel
theorem dX9_as_25 : decode cX9_as 25 = .ok (.iconst 1, 1) := by decide +kernel
theorem dX9_as_26 : decode cX9_as 26 = .ok (.invokevirtual 64, 3) := by decide +kernel
theorem dX9_as_29 : decode cX9_as 29 = .ok (.ireturn, 1) := by decide +kernel
theorem dX9_as_30 : decode cX9_as 30 = .ok (.aload_n 0, 1) := by decide +kernel
theorem dX9_as_31 : decode cX9_as 31 = .ok (.getfield 10, 3) := by decide +kernel
theorem dX9_as_34 : decode cX9_as 34 = .ok (.getfield 57, 3) := by decide +kernel
theorem dX9_as_37 : decode cX9_as 37 = .ok (.getfield 72, 3) := by decide +kernel
theorem dX9_as_40 : decode cX9_as 40 = .ok (.iload_n 1, 1) := by decide +kernel
theorem dX9_as_41 : decode cX9_as 41 = .ok (.aaload, 1) := by decide +kernel
theorem dX9_as_42 : decode cX9_as 42 = .ok (.astore_n 3, 1) := by decide +kernel
theorem dX9_as_43 : decode cX9_as 43 = .ok (.aload_n 3, 1) := by decide +kernel
theorem dX9_as_44 : decode cX9_as 44 = .ok (.getfield 85, 3) := by decide +kernel
theorem dX9_as_47 : decode cX9_as 47 = .ok (.iload_n 2, 1) := by decide +kernel
theorem dX9_as_48 : decode cX9_as 48 = .ok (.invokestatic 104, 3) := by decide +kernel
theorem dX9_as_51 : decode cX9_as 51 = .ok (.ifCond .ne 9, 3) := by decide +kernel
theorem dX9_as_54 : decode cX9_as 54 = .ok (.aload_n 0, 1) := by decide +kernel
theorem dX9_as_55 : decode cX9_as 55 = .ok (.iconst 5, 1) := by decide +kernel
theorem dX9_as_56 : decode cX9_as 56 = .ok (.invokevirtual 64, 3) := by decide +kernel
theorem dX9_as_59 : decode cX9_as 59 = .ok (.ireturn, 1) := by decide +kernel
theorem dX9_as_60 : decode cX9_as 60 = .ok (.aload_n 3, 1) := by decide +kernel
theorem dX9_as_61 : decode cX9_as 61 = .ok (.getfield 88, 3) := by decide +kernel
theorem dX9_as_64 : decode cX9_as 64 = .ok (.ireturn, 1) := by decide +kernel
theorem dX9_potter_0 : decode cX9_potter 0 = .ok (.aload_n 0, 1) := by decide +kernel
theorem dX9_potter_1 : decode cX9_potter 1 = .ok (.getfield 10, 3) := by decide +kernel
theorem dX9_potter_4 : decode cX9_potter 4 = .ok (.getfield 57, 3) := by decide +kernel
theorem dX9_potter_7 : decode cX9_potter 7 = .ok (.astore_n 1, 1) := by decide +kernel
theorem dX9_potter_8 : decode cX9_potter 8 = .ok (.aload_n 1, 1) := by decide +kernel
theorem dX9_potter_9 : decode cX9_potter 9 = .ok (.getfield 108, 3) := by decide +kernel
theorem dX9_potter_12 : decode cX9_potter 12 = .ok (.iconst 4, 1) := by decide +kernel
theorem dX9_potter_13 : decode cX9_potter 13 = .ok (.if_icmp .lt 9, 3) := by decide +kernel
theorem dX9_potter_16 : decode cX9_potter 16 = .ok (.aload_n 0, 1) := by decide +kernel
theorem dX9_potter_17 : decode cX9_potter 17 = .ok (.iconst 4, 1) := by decide +kernel
theorem dX9_potter_18 : decode cX9_potter 18 = .ok (.invokevirtual 64, 3) := by decide +kernel
theorem dX9_potter_21 : decode cX9_potter 21 = .ok (.ireturn, 1) := by decide +kernel
theorem dX9_potter_22 : decode cX9_potter 22 = .ok (.aload_n 1, 1) := by decide +kernel
theorem dX9_potter_23 : decode cX9_potter 23 = .ok (.getfield 111, 3) := by decide +kernel
theorem dX9_potter_26 : decode cX9_potter 26 = .ok (.aload_n 1, 1) := by decide +kernel
theorem dX9_potter_27 : decode cX9_potter 27 = .ok (.getfield 108, 3) := by decide +kernel
theorem dX9_potter_30 : decode cX9_potter 30 = .ok (.aaload, 1) := by decide +kernel
theorem dX9_potter_31 : decode cX9_potter 31 = .ok (.invokevirtual 115, 3) := by decide +kernel
theorem dX9_potter_34 : decode cX9_potter 34 = .ok (.aload_n 1, 1) := by decide +kernel
theorem dX9_potter_35 : decode cX9_potter 35 = .ok (.dup, 1) := by decide +kernel
theorem dX9_potter_36 : decode cX9_potter 36 = .ok (.getfield 108, 3) := by decide +kernel
theorem dX9_potter_39 : decode cX9_potter 39 = .ok (.iconst 1, 1) := by decide +kernel
theorem dX9_potter_40 : decode cX9_potter 40 = .ok (.iadd, 1) := by decide +kernel
theorem dX9_potter_41 : decode cX9_potter 41 = .ok (.putfield 108, 3) := by decide +kernel
theorem dX9_potter_44 : decode cX9_potter 44 = .ok (.aload_n 1, 1) := by decide +kernel
theorem dX9_potter_45 : decode cX9_potter 45 = .ok (.getfield 108, 3) := by decide +kernel
theorem dX9_potter_48 : decode cX9_potter 48 = .ok (.iconst 1, 1) := by decide +kernel
theorem dX9_potter_49 : decode cX9_potter 49 = .ok (.isub, 1) := by decide +kernel
theorem dX9_potter_50 : decode cX9_potter 50 = .ok (.ireturn, 1) := by decide +kernel
theorem dX9_ofPotter_0 : decode cX9_ofPotter 0 = .ok (.aload_n 0, 1) := by decide +kernel
theorem dX9_ofPotter_1 : decode cX9_ofPotter 1 = .ok (.getfield 10, 3) := by decide +kernel
theorem dX9_ofPotter_4 : decode cX9_ofPotter 4 = .ok (.getfield 57, 3) := by decide +kernel
theorem dX9_ofPotter_7 : decode cX9_ofPotter 7 = .ok (.iload_n 1, 1) := by decide +kernel
theorem dX9_ofPotter_8 : decode cX9_ofPotter 8 = .ok (.invokevirtual 119, 3) := by decide +kernel
theorem dX9_ofPotter_11 : decode cX9_ofPotter 11 = .ok (.ifCond .ne 9, 3) := by decide +kernel
theorem dX9_ofPotter_14 : decode cX9_ofPotter 14 = .ok (.aload_n 0, 1) := by decide +kernel
theorem dX9_ofPotter_15 : decode cX9_ofPotter 15 = .ok (.iconst 1, 1) := by decide +kernel
theorem dX9_ofPotter_16 : decode cX9_ofPotter 16 = .ok (.invokevirtual 64, 3) := by decide +kernel
theorem dX9_ofPotter_19 : decode cX9_ofPotter 19 = .ok (.ireturn, 1) := by decide +kernel
theorem dX9_ofPotter_20 : decode cX9_ofPotter 20 = .ok (.iload_n 2, 1) := by decide +kernel
theorem dX9_ofPotter_21 : decode cX9_ofPotter 21 = .ok (.tableswitch 87 0 3 #[31, 47, 63, 75], 31) := by decide +kernel
theorem dX9_ofPotter_52 : decode cX9_ofPotter 52 = .ok (.aload_n 0, 1) := by decide +kernel
theorem dX9_ofPotter_53 : decode cX9_ofPotter 53 = .ok (.getfield 10, 3) := by decide +kernel
theorem dX9_ofPotter_56 : decode cX9_ofPotter 56 = .ok (.getfield 57, 3) := by decide +kernel
theorem dX9_ofPotter_59 : decode cX9_ofPotter 59 = .ok (.getfield 111, 3) := by decide +kernel
theorem dX9_ofPotter_62 : decode cX9_ofPotter 62 = .ok (.iload_n 1, 1) := by decide +kernel
theorem dX9_ofPotter_63 : decode cX9_ofPotter 63 = .ok (.aaload, 1) := by decide +kernel
theorem dX9_ofPotter_64 : decode cX9_ofPotter 64 = .ok (.getfield 122, 3) := by decide +kernel
theorem dX9_ofPotter_67 : decode cX9_ofPotter 67 = .ok (.ireturn, 1) := by decide +kernel
theorem dX9_ofPotter_68 : decode cX9_ofPotter 68 = .ok (.aload_n 0, 1) := by decide +kernel
theorem dX9_ofPotter_69 : decode cX9_ofPotter 69 = .ok (.getfield 10, 3) := by decide +kernel
theorem dX9_ofPotter_72 : decode cX9_ofPotter 72 = .ok (.getfield 57, 3) := by decide +kernel
theorem dX9_ofPotter_75 : decode cX9_ofPotter 75 = .ok (.getfield 111, 3) := by decide +kernel
theorem dX9_ofPotter_78 : decode cX9_ofPotter 78 = .ok (.iload_n 1, 1) := by decide +kernel
theorem dX9_ofPotter_79 : decode cX9_ofPotter 79 = .ok (.aaload, 1) := by decide +kernel
theorem dX9_ofPotter_80 : decode cX9_ofPotter 80 = .ok (.getfield 125, 3) := by decide +kernel
theorem dX9_ofPotter_83 : decode cX9_ofPotter 83 = .ok (.ireturn, 1) := by decide +kernel
theorem dX9_ofPotter_84 : decode cX9_ofPotter 84 = .ok (.aload_n 0, 1) := by decide +kernel
theorem dX9_ofPotter_85 : decode cX9_ofPotter 85 = .ok (.getfield 10, 3) := by decide +kernel
theorem dX9_ofPotter_88 : decode cX9_ofPotter 88 = .ok (.getfield 57, 3) := by decide +kernel
theorem dX9_ofPotter_91 : decode cX9_ofPotter 91 = .ok (.iload_n 1, 1) := by decide +kernel
theorem dX9_ofPotter_92 : decode cX9_ofPotter 92 = .ok (.invokevirtual 128, 3) := by decide +kernel
theorem dX9_ofPotter_95 : decode cX9_ofPotter 95 = .ok (.ireturn, 1) := by decide +kernel
theorem dX9_ofPotter_96 : decode cX9_ofPotter 96 = .ok (.aload_n 0, 1) := by decide +kernel
theorem dX9_ofPotter_97 : decode cX9_ofPotter 97 = .ok (.getfield 10, 3) := by decide +kernel
theorem dX9_ofPotter_100 : decode cX9_ofPotter 100 = .ok (.getfield 57, 3) := by decide +kernel
theorem dX9_ofPotter_103 : decode cX9_ofPotter 103 = .ok (.iload_n 1, 1) := by decide +kernel
theorem dX9_ofPotter_104 : decode cX9_ofPotter 104 = .ok (.invokevirtual 131, 3) := by decide +kernel
theorem dX9_ofPotter_107 : decode cX9_ofPotter 107 = .ok (.ireturn, 1) := by decide +kernel
theorem dX9_ofPotter_108 : decode cX9_ofPotter 108 = .ok (.aload_n 0, 1) := by decide +kernel
theorem dX9_ofPotter_109 : decode cX9_ofPotter 109 = .ok (.iconst 1, 1) := by decide +kernel
theorem dX9_ofPotter_110 : decode cX9_ofPotter 110 = .ok (.invokevirtual 64, 3) := by decide +kernel
theorem dX9_ofPotter_113 : decode cX9_ofPotter 113 = .ok (.ireturn, 1) := by decide +kernel
theorem dX9_store_0 : decode cX9_store 0 = .ok (.aload_n 0, 1) := by decide +kernel
theorem dX9_store_1 : decode cX9_store 1 = .ok (.getfield 10, 3) := by decide +kernel
theorem dX9_store_4 : decode cX9_store 4 = .ok (.getfield 57, 3) := by decide +kernel
theorem dX9_store_7 : decode cX9_store 7 = .ok (.iload_n 1, 1) := by decide +kernel
theorem dX9_store_8 : decode cX9_store 8 = .ok (.invokevirtual 119, 3) := by decide +kernel
theorem dX9_store_11 : decode cX9_store 11 = .ok (.ifCond .eq 28, 3) := by decide +kernel
theorem dX9_store_14 : decode cX9_store 14 = .ok (.aload_n 0, 1) := by decide +kernel
theorem dX9_store_15 : decode cX9_store 15 = .ok (.getfield 10, 3) := by decide +kernel
theorem dX9_store_18 : decode cX9_store 18 = .ok (.getfield 57, 3) := by decide +kernel
theorem dX9_store_21 : decode cX9_store 21 = .ok (.iload_n 2, 1) := by decide +kernel
theorem dX9_store_22 : decode cX9_store 22 = .ok (.invokevirtual 82, 3) := by decide +kernel
theorem dX9_store_25 : decode cX9_store 25 = .ok (.ifCond .eq 14, 3) := by decide +kernel
theorem dX9_store_28 : decode cX9_store 28 = .ok (.iload_n 3, 1) := by decide +kernel
theorem dX9_store_29 : decode cX9_store 29 = .ok (.iconst 0, 1) := by decide +kernel
theorem dX9_store_30 : decode cX9_store 30 = .ok (.sipush 999, 3) := by decide +kernel
theorem dX9_store_33 : decode cX9_store 33 = .ok (.invokestatic 100, 3) := by decide +kernel
theorem dX9_store_36 : decode cX9_store 36 = .ok (.ifCond .ne 9, 3) := by decide +kernel
theorem dX9_store_39 : decode cX9_store 39 = .ok (.aload_n 0, 1) := by decide +kernel
theorem dX9_store_40 : decode cX9_store 40 = .ok (.iconst 1, 1) := by decide +kernel
theorem dX9_store_41 : decode cX9_store 41 = .ok (.invokevirtual 64, 3) := by decide +kernel
theorem dX9_store_44 : decode cX9_store 44 = .ok (.ireturn, 1) := by decide +kernel
theorem dX9_store_45 : decode cX9_store 45 = .ok (.aload_n 0, 1) := by decide +kernel
theorem dX9_store_46 : decode cX9_store 46 = .ok (.getfield 10, 3) := by decide +kernel
theorem dX9_store_49 : decode cX9_store 49 = .ok (.getfield 57, 3) := by decide +kernel
theorem dX9_store_52 : decode cX9_store 52 = .ok (.getfield 111, 3) := by decide +kernel
theorem dX9_store_55 : decode cX9_store 55 = .ok (.iload_n 1, 1) := by decide +kernel
theorem dX9_store_56 : decode cX9_store 56 = .ok (.aaload, 1) := by decide +kernel
theorem dX9_store_57 : decode cX9_store 57 = .ok (.getfield 134, 3) := by decide +kernel
theorem dX9_store_60 : decode cX9_store 60 = .ok (.astore 4, 2) := by decide +kernel
theorem dX9_store_62 : decode cX9_store 62 = .ok (.aload 4, 2) := by decide +kernel
theorem dX9_store_64 : decode cX9_store 64 = .ok (.iload_n 2, 1) := by decide +kernel
theorem dX9_store_65 : decode cX9_store 65 = .ok (.iaload, 1) := by decide +kernel
theorem dX9_store_66 : decode cX9_store 66 = .ok (.istore 5, 2) := by decide +kernel
theorem dX9_store_68 : decode cX9_store 68 = .ok (.aload 4, 2) := by decide +kernel
theorem dX9_store_70 : decode cX9_store 70 = .ok (.iload_n 2, 1) := by decide +kernel
theorem dX9_store_71 : decode cX9_store 71 = .ok (.iload_n 3, 1) := by decide +kernel
theorem dX9_store_72 : decode cX9_store 72 = .ok (.iastore, 1) := by decide +kernel
theorem dX9_store_73 : decode cX9_store 73 = .ok (.iload 5, 2) := by decide +kernel
theorem dX9_store_75 : decode cX9_store 75 = .ok (.ireturn, 1) := by decide +kernel
theorem dX9_stored_0 : decode cX9_stored 0 = .ok (.aload_n 0, 1) := by decide +kernel
theorem dX9_stored_1 : decode cX9_stored 1 = .ok (.getfield 10, 3) := by decide +kernel
theorem dX9_stored_4 : decode cX9_stored 4 = .ok (.getfield 57, 3) := by decide +kernel
theorem dX9_stored_7 : decode cX9_stored 7 = .ok (.iload_n 1, 1) := by decide +kernel
theorem dX9_stored_8 : decode cX9_stored 8 = .ok (.invokevirtual 119, 3) := by decide +kernel
theorem dX9_stored_11 : decode cX9_stored 11 = .ok (.ifCond .eq 17, 3) := by decide +kernel
theorem dX9_stored_14 : decode cX9_stored 14 = .ok (.aload_n 0, 1) := by decide +kernel
theorem dX9_stored_15 : decode cX9_stored 15 = .ok (.getfield 10, 3) := by decide +kernel
theorem dX9_stored_18 : decode cX9_stored 18 = .ok (.getfield 57, 3) := by decide +kernel
theorem dX9_stored_21 : decode cX9_stored 21 = .ok (.iload_n 2, 1) := by decide +kernel
theorem dX9_stored_22 : decode cX9_stored 22 = .ok (.invokevirtual 82, 3) := by decide +kernel
theorem dX9_stored_25 : decode cX9_stored 25 = .ok (.ifCond .ne 9, 3) := by decide +kernel
theorem dX9_stored_28 : decode cX9_stored 28 = .ok (.aload_n 0, 1) := by decide +kernel
theorem dX9_stored_29 : decode cX9_stored 29 = .ok (.iconst 1, 1) := by decide +kernel
theorem dX9_stored_30 : decode cX9_stored 30 = .ok (.invokevirtual 64, 3) := by decide +kernel
theorem dX9_stored_33 : decode cX9_stored 33 = .ok (.ireturn, 1) := by decide +kernel
theorem dX9_stored_34 : decode cX9_stored 34 = .ok (.aload_n 0, 1) := by decide +kernel
theorem dX9_stored_35 : decode cX9_stored 35 = .ok (.getfield 10, 3) := by decide +kernel
theorem dX9_stored_38 : decode cX9_stored 38 = .ok (.getfield 57, 3) := by decide +kernel
theorem dX9_stored_41 : decode cX9_stored 41 = .ok (.getfield 111, 3) := by decide +kernel
theorem dX9_stored_44 : decode cX9_stored 44 = .ok (.iload_n 1, 1) := by decide +kernel
theorem dX9_stored_45 : decode cX9_stored 45 = .ok (.aaload, 1) := by decide +kernel
theorem dX9_stored_46 : decode cX9_stored 46 = .ok (.getfield 134, 3) := by decide +kernel
theorem dX9_stored_49 : decode cX9_stored 49 = .ok (.iload_n 2, 1) := by decide +kernel
theorem dX9_stored_50 : decode cX9_stored 50 = .ok (.iaload, 1) := by decide +kernel
theorem dX9_stored_51 : decode cX9_stored 51 = .ok (.ireturn, 1) := by decide +kernel
theorem dX9_feed_0 : decode cX9_feed 0 = .ok (.iload_n 3, 1) := by decide +kernel
theorem dX9_feed_1 : decode cX9_feed 1 = .ok (.iconst 1, 1) := by decide +kernel
theorem dX9_feed_2 : decode cX9_feed 2 = .ok (.bipush 8, 2) := by decide +kernel
theorem dX9_feed_4 : decode cX9_feed 4 = .ok (.invokestatic 100, 3) := by decide +kernel
theorem dX9_feed_7 : decode cX9_feed 7 = .ok (.ifCond .ne 9, 3) := by decide +kernel
theorem dX9_feed_10 : decode cX9_feed 10 = .ok (.aload_n 0, 1) := by decide +kernel
theorem dX9_feed_11 : decode cX9_feed 11 = .ok (.iconst 1, 1) := by decide +kernel
theorem dX9_feed_12 : decode cX9_feed 12 = .ok (.invokevirtual 64, 3) := by decide +kernel
theorem dX9_feed_15 : decode cX9_feed 15 = .ok (.ireturn, 1) := by decide +kernel
theorem dX9_feed_16 : decode cX9_feed 16 = .ok (.aload_n 0, 1) := by decide +kernel
theorem dX9_feed_17 : decode cX9_feed 17 = .ok (.getfield 10, 3) := by decide +kernel
theorem dX9_feed_20 : decode cX9_feed 20 = .ok (.getfield 137, 3) := by decide +kernel
theorem dX9_feed_23 : decode cX9_feed 23 = .ok (.iload_n 3, 1) := by decide +kernel
theorem dX9_feed_24 : decode cX9_feed 24 = .ok (.iadd, 1) := by decide +kernel
theorem dX9_feed_25 : decode cX9_feed 25 = .ok (.bipush 50, 2) := by decide +kernel
theorem dX9_feed_27 : decode cX9_feed 27 = .ok (.if_icmp .le 9, 3) := by decide +kernel
theorem dX9_feed_30 : decode cX9_feed 30 = .ok (.aload_n 0, 1) := by decide +kernel
theorem dX9_feed_31 : decode cX9_feed 31 = .ok (.iconst 4, 1) := by decide +kernel
theorem dX9_feed_32 : decode cX9_feed 32 = .ok (.invokevirtual 64, 3) := by decide +kernel
theorem dX9_feed_35 : decode cX9_feed 35 = .ok (.ireturn, 1) := by decide +kernel
theorem dX9_feed_36 : decode cX9_feed 36 = .ok (.iconst 0, 1) := by decide +kernel
theorem dX9_feed_37 : decode cX9_feed 37 = .ok (.istore 4, 2) := by decide +kernel
theorem dX9_feed_39 : decode cX9_feed 39 = .ok (.iload 4, 2) := by decide +kernel
theorem dX9_feed_41 : decode cX9_feed 41 = .ok (.iload_n 3, 1) := by decide +kernel
theorem dX9_feed_42 : decode cX9_feed 42 = .ok (.if_icmp .ge 39, 3) := by decide +kernel
theorem dX9_feed_45 : decode cX9_feed 45 = .ok (.aload_n 0, 1) := by decide +kernel
theorem dX9_feed_46 : decode cX9_feed 46 = .ok (.getfield 10, 3) := by decide +kernel
theorem dX9_feed_49 : decode cX9_feed 49 = .ok (.getfield 140, 3) := by decide +kernel
theorem dX9_feed_52 : decode cX9_feed 52 = .ok (.aload_n 0, 1) := by decide +kernel
theorem dX9_feed_53 : decode cX9_feed 53 = .ok (.getfield 10, 3) := by decide +kernel
theorem dX9_feed_56 : decode cX9_feed 56 = .ok (.getfield 137, 3) := by decide +kernel
theorem dX9_feed_59 : decode cX9_feed 59 = .ok (.iload 4, 2) := by decide +kernel
theorem dX9_feed_61 : decode cX9_feed 61 = .ok (.iadd, 1) := by decide +kernel
theorem dX9_feed_62 : decode cX9_feed 62 = .ok (.lload_n 1, 1) := by decide +kernel
theorem dX9_feed_63 : decode cX9_feed 63 = .ok (.bipush 8, 2) := by decide +kernel
theorem dX9_feed_65 : decode cX9_feed 65 = .ok (.iload 4, 2) := by decide +kernel
theorem dX9_feed_67 : decode cX9_feed 67 = .ok (.imul, 1) := by decide +kernel
theorem dX9_feed_68 : decode cX9_feed 68 = .ok (.lushr, 1) := by decide +kernel
theorem dX9_feed_69 : decode cX9_feed 69 = .ok (.l2i, 1) := by decide +kernel
theorem dX9_feed_70 : decode cX9_feed 70 = .ok (.sipush 255, 3) := by decide +kernel
theorem dX9_feed_73 : decode cX9_feed 73 = .ok (.iand, 1) := by decide +kernel
theorem dX9_feed_74 : decode cX9_feed 74 = .ok (.iastore, 1) := by decide +kernel
theorem dX9_feed_75 : decode cX9_feed 75 = .ok (.iinc 4 1, 3) := by decide +kernel
theorem dX9_feed_78 : decode cX9_feed 78 = .ok (.goto (-39), 3) := by decide +kernel
theorem dX9_feed_81 : decode cX9_feed 81 = .ok (.aload_n 0, 1) := by decide +kernel
theorem dX9_feed_82 : decode cX9_feed 82 = .ok (.getfield 10, 3) := by decide +kernel
theorem dX9_feed_85 : decode cX9_feed 85 = .ok (.dup, 1) := by decide +kernel
theorem dX9_feed_86 : decode cX9_feed 86 = .ok (.getfield 137, 3) := by decide +kernel
theorem dX9_feed_89 : decode cX9_feed 89 = .ok (.iload_n 3, 1) := by decide +kernel
theorem dX9_feed_90 : decode cX9_feed 90 = .ok (.iadd, 1) := by decide +kernel
theorem dX9_feed_91 : decode cX9_feed 91 = .ok (.putfield 137, 3) := by decide +kernel
theorem dX9_feed_94 : decode cX9_feed 94 = .ok (.aload_n 0, 1) := by decide +kernel
theorem dX9_feed_95 : decode cX9_feed 95 = .ok (.getfield 10, 3) := by decide +kernel
theorem dX9_feed_98 : decode cX9_feed 98 = .ok (.getfield 137, 3) := by decide +kernel
theorem dX9_feed_101 : decode cX9_feed 101 = .ok (.ireturn, 1) := by decide +kernel
theorem dX9_text_0 : decode cX9_text 0 = .ok (.iload_n 1, 1) := by decide +kernel
theorem dX9_text_1 : decode cX9_text 1 = .ok (.invokestatic 143, 3) := by decide +kernel
theorem dX9_text_4 : decode cX9_text 4 = .ok (.ifCond .ne 9, 3) := by decide +kernel
theorem dX9_text_7 : decode cX9_text 7 = .ok (.aload_n 0, 1) := by decide +kernel
theorem dX9_text_8 : decode cX9_text 8 = .ok (.iconst 1, 1) := by decide +kernel
theorem dX9_text_9 : decode cX9_text 9 = .ok (.invokevirtual 64, 3) := by decide +kernel
theorem dX9_text_12 : decode cX9_text 12 = .ok (.ireturn, 1) := by decide +kernel
theorem dX9_text_13 : decode cX9_text 13 = .ok (.aload_n 0, 1) := by decide +kernel
theorem dX9_text_14 : decode cX9_text 14 = .ok (.getfield 29, 3) := by decide +kernel
theorem dX9_text_17 : decode cX9_text 17 = .ok (.aload_n 0, 1) := by decide +kernel
theorem dX9_text_18 : decode cX9_text 18 = .ok (.getfield 10, 3) := by decide +kernel
theorem dX9_text_21 : decode cX9_text 21 = .ok (.getfield 140, 3) := by decide +kernel
theorem dX9_text_24 : decode cX9_text 24 = .ok (.aload_n 0, 1) := by decide +kernel
theorem dX9_text_25 : decode cX9_text 25 = .ok (.getfield 10, 3) := by decide +kernel
theorem dX9_text_28 : decode cX9_text 28 = .ok (.getfield 137, 3) := by decide +kernel
theorem dX9_text_31 : decode cX9_text 31 = .ok (.iload_n 1, 1) := by decide +kernel
theorem dX9_text_32 : decode cX9_text 32 = .ok (.invokevirtual 146, 3) := by decide +kernel
theorem dX9_text_35 : decode cX9_text 35 = .ok (.istore_n 2, 1) := by decide +kernel
theorem dX9_text_36 : decode cX9_text 36 = .ok (.aload_n 0, 1) := by decide +kernel
theorem dX9_text_37 : decode cX9_text 37 = .ok (.getfield 10, 3) := by decide +kernel
theorem dX9_text_40 : decode cX9_text 40 = .ok (.iconst 0, 1) := by decide +kernel
theorem dX9_text_41 : decode cX9_text 41 = .ok (.putfield 137, 3) := by decide +kernel
theorem dX9_text_44 : decode cX9_text 44 = .ok (.iload_n 2, 1) := by decide +kernel
theorem dX9_text_45 : decode cX9_text 45 = .ok (.ifCond .ne 14, 3) := by decide +kernel
theorem dX9_text_48 : decode cX9_text 48 = .ok (.bipush (-10), 2) := by decide +kernel
theorem dX9_text_50 : decode cX9_text 50 = .ok (.aload_n 0, 1) := by decide +kernel
theorem dX9_text_51 : decode cX9_text 51 = .ok (.getfield 29, 3) := by decide +kernel
theorem dX9_text_54 : decode cX9_text 54 = .ok (.getfield 150, 3) := by decide +kernel
theorem dX9_text_57 : decode cX9_text 57 = .ok (.isub, 1) := by decide +kernel
theorem dX9_text_58 : decode cX9_text 58 = .ok (.ireturn, 1) := by decide +kernel
theorem dX9_text_59 : decode cX9_text 59 = .ok (.aload_n 0, 1) := by decide +kernel
theorem dX9_text_60 : decode cX9_text 60 = .ok (.getfield 10, 3) := by decide +kernel
theorem dX9_text_63 : decode cX9_text 63 = .ok (.getfield 153, 3) := by decide +kernel
theorem dX9_text_66 : decode cX9_text 66 = .ok (.iload_n 1, 1) := by decide +kernel
theorem dX9_text_67 : decode cX9_text 67 = .ok (.aaload, 1) := by decide +kernel
theorem dX9_text_68 : decode cX9_text 68 = .ok (.aload_n 0, 1) := by decide +kernel
theorem dX9_text_69 : decode cX9_text 69 = .ok (.getfield 29, 3) := by decide +kernel
theorem dX9_text_72 : decode cX9_text 72 = .ok (.getfield 157, 3) := by decide +kernel
theorem dX9_text_75 : decode cX9_text 75 = .ok (.aload_n 0, 1) := by decide +kernel
theorem dX9_text_76 : decode cX9_text 76 = .ok (.getfield 29, 3) := by decide +kernel
theorem dX9_text_79 : decode cX9_text 79 = .ok (.getfield 160, 3) := by decide +kernel
theorem dX9_text_82 : decode cX9_text 82 = .ok (.invokevirtual 163, 3) := by decide +kernel
theorem dX9_text_85 : decode cX9_text 85 = .ok (.iconst 1, 1) := by decide +kernel
theorem dX9_text_86 : decode cX9_text 86 = .ok (.ireturn, 1) := by decide +kernel
theorem dX9_law_0 : decode cX9_law 0 = .ok (.iload_n 1, 1) := by decide +kernel
theorem dX9_law_1 : decode cX9_law 1 = .ok (.invokestatic 143, 3) := by decide +kernel
theorem dX9_law_4 : decode cX9_law 4 = .ok (.ifCond .ne 9, 3) := by decide +kernel
theorem dX9_law_7 : decode cX9_law 7 = .ok (.aload_n 0, 1) := by decide +kernel
theorem dX9_law_8 : decode cX9_law 8 = .ok (.iconst 1, 1) := by decide +kernel
theorem dX9_law_9 : decode cX9_law 9 = .ok (.invokevirtual 64, 3) := by decide +kernel
theorem dX9_law_12 : decode cX9_law 12 = .ok (.ireturn, 1) := by decide +kernel
theorem dX9_law_13 : decode cX9_law 13 = .ok (.aload_n 0, 1) := by decide +kernel
theorem dX9_law_14 : decode cX9_law 14 = .ok (.getfield 10, 3) := by decide +kernel
theorem dX9_law_17 : decode cX9_law 17 = .ok (.getfield 153, 3) := by decide +kernel
theorem dX9_law_20 : decode cX9_law 20 = .ok (.iload_n 1, 1) := by decide +kernel
theorem dX9_law_21 : decode cX9_law 21 = .ok (.aaload, 1) := by decide +kernel
theorem dX9_law_22 : decode cX9_law 22 = .ok (.iload_n 2, 1) := by decide +kernel
theorem dX9_law_23 : decode cX9_law 23 = .ok (.iload_n 3, 1) := by decide +kernel
theorem dX9_law_24 : decode cX9_law 24 = .ok (.iload 4, 2) := by decide +kernel
theorem dX9_law_26 : decode cX9_law 26 = .ok (.invokevirtual 169, 3) := by decide +kernel
theorem dX9_law_29 : decode cX9_law 29 = .ok (.ireturn, 1) := by decide +kernel
theorem dX9_lend_0 : decode cX9_lend 0 = .ok (.aload_n 0, 1) := by decide +kernel
theorem dX9_lend_1 : decode cX9_lend 1 = .ok (.getfield 10, 3) := by decide +kernel
theorem dX9_lend_4 : decode cX9_lend 4 = .ok (.getfield 57, 3) := by decide +kernel
theorem dX9_lend_7 : decode cX9_lend 7 = .ok (.astore 6, 2) := by decide +kernel
theorem dX9_lend_9 : decode cX9_lend 9 = .ok (.aload 6, 2) := by decide +kernel
theorem dX9_lend_11 : decode cX9_lend 11 = .ok (.iload_n 1, 1) := by decide +kernel
theorem dX9_lend_12 : decode cX9_lend 12 = .ok (.invokevirtual 119, 3) := by decide +kernel
theorem dX9_lend_15 : decode cX9_lend 15 = .ok (.ifCond .eq 21, 3) := by decide +kernel
theorem dX9_lend_18 : decode cX9_lend 18 = .ok (.aload 6, 2) := by decide +kernel
theorem dX9_lend_20 : decode cX9_lend 20 = .ok (.iload_n 2, 1) := by decide +kernel
theorem dX9_lend_21 : decode cX9_lend 21 = .ok (.invokevirtual 119, 3) := by decide +kernel
theorem dX9_lend_24 : decode cX9_lend 24 = .ok (.ifCond .eq 12, 3) := by decide +kernel
theorem dX9_lend_27 : decode cX9_lend 27 = .ok (.iload_n 1, 1) := by decide +kernel
theorem dX9_lend_28 : decode cX9_lend 28 = .ok (.iload_n 2, 1) := by decide +kernel
theorem dX9_lend_29 : decode cX9_lend 29 = .ok (.if_icmp .eq 7, 3) := by decide +kernel
theorem dX9_lend_32 : decode cX9_lend 32 = .ok (.iconst 1, 1) := by decide +kernel
theorem dX9_lend_33 : decode cX9_lend 33 = .ok (.goto 4, 3) := by decide +kernel
theorem dX9_lend_36 : decode cX9_lend 36 = .ok (.iconst 0, 1) := by decide +kernel
theorem dX9_lend_37 : decode cX9_lend 37 = .ok (.istore 7, 2) := by decide +kernel
theorem dX9_lend_39 : decode cX9_lend 39 = .ok (.iload 7, 2) := by decide +kernel
theorem dX9_lend_41 : decode cX9_lend 41 = .ok (.ifCond .eq 34, 3) := by decide +kernel
theorem dX9_lend_44 : decode cX9_lend 44 = .ok (.aload 6, 2) := by decide +kernel
theorem dX9_lend_46 : decode cX9_lend 46 = .ok (.iload_n 3, 1) := by decide +kernel
theorem dX9_lend_47 : decode cX9_lend 47 = .ok (.invokevirtual 82, 3) := by decide +kernel
theorem dX9_lend_50 : decode cX9_lend 50 = .ok (.ifCond .eq 25, 3) := by decide +kernel
theorem dX9_lend_53 : decode cX9_lend 53 = .ok (.iload 4, 2) := by decide +kernel
theorem dX9_lend_55 : decode cX9_lend 55 = .ok (.iconst 1, 1) := by decide +kernel
theorem dX9_lend_56 : decode cX9_lend 56 = .ok (.bipush 99, 2) := by decide +kernel
theorem dX9_lend_58 : decode cX9_lend 58 = .ok (.invokestatic 100, 3) := by decide +kernel
theorem dX9_lend_61 : decode cX9_lend 61 = .ok (.ifCond .eq 14, 3) := by decide +kernel
theorem dX9_lend_64 : decode cX9_lend 64 = .ok (.iload 5, 2) := by decide +kernel
theorem dX9_lend_66 : decode cX9_lend 66 = .ok (.iconst 1, 1) := by decide +kernel
theorem dX9_lend_67 : decode cX9_lend 67 = .ok (.bipush 60, 2) := by decide +kernel
theorem dX9_lend_69 : decode cX9_lend 69 = .ok (.invokestatic 100, 3) := by decide +kernel
theorem dX9_lend_72 : decode cX9_lend 72 = .ok (.ifCond .ne 9, 3) := by decide +kernel
theorem dX9_lend_75 : decode cX9_lend 75 = .ok (.aload_n 0, 1) := by decide +kernel
theorem dX9_lend_76 : decode cX9_lend 76 = .ok (.iconst 1, 1) := by decide +kernel
theorem dX9_lend_77 : decode cX9_lend 77 = .ok (.invokevirtual 64, 3) := by decide +kernel
theorem dX9_lend_80 : decode cX9_lend 80 = .ok (.ireturn, 1) := by decide +kernel
theorem dX9_lend_81 : decode cX9_lend 81 = .ok (.aload 6, 2) := by decide +kernel
theorem dX9_lend_83 : decode cX9_lend 83 = .ok (.iload_n 1, 1) := by decide +kernel
theorem dX9_lend_84 : decode cX9_lend 84 = .ok (.iload_n 2, 1) := by decide +kernel
theorem dX9_lend_85 : decode cX9_lend 85 = .ok (.iload_n 3, 1) := by decide +kernel
theorem dX9_lend_86 : decode cX9_lend 86 = .ok (.iload 4, 2) := by decide +kernel
theorem dX9_lend_88 : decode cX9_lend 88 = .ok (.invokevirtual 173, 3) := by decide +kernel
theorem dX9_lend_91 : decode cX9_lend 91 = .ok (.ifCond .ne 9, 3) := by decide +kernel
theorem dX9_lend_94 : decode cX9_lend 94 = .ok (.aload_n 0, 1) := by decide +kernel
theorem dX9_lend_95 : decode cX9_lend 95 = .ok (.iconst 3, 1) := by decide +kernel
theorem dX9_lend_96 : decode cX9_lend 96 = .ok (.invokevirtual 64, 3) := by decide +kernel
theorem dX9_lend_99 : decode cX9_lend 99 = .ok (.ireturn, 1) := by decide +kernel
theorem dX9_lend_100 : decode cX9_lend 100 = .ok (.aload 6, 2) := by decide +kernel
theorem dX9_lend_102 : decode cX9_lend 102 = .ok (.getfield 177, 3) := by decide +kernel
theorem dX9_lend_105 : decode cX9_lend 105 = .ok (.bipush 10, 2) := by decide +kernel
theorem dX9_lend_107 : decode cX9_lend 107 = .ok (.if_icmp .lt 9, 3) := by decide +kernel
theorem dX9_lend_110 : decode cX9_lend 110 = .ok (.aload_n 0, 1) := by decide +kernel
theorem dX9_lend_111 : decode cX9_lend 111 = .ok (.iconst 4, 1) := by decide +kernel
theorem dX9_lend_112 : decode cX9_lend 112 = .ok (.invokevirtual 64, 3) := by decide +kernel
theorem dX9_lend_115 : decode cX9_lend 115 = .ok (.ireturn, 1) := by decide +kernel
theorem dX9_lend_116 : decode cX9_lend 116 = .ok (.aload 6, 2) := by decide +kernel
theorem dX9_lend_118 : decode cX9_lend 118 = .ok (.iload_n 1, 1) := by decide +kernel
theorem dX9_lend_119 : decode cX9_lend 119 = .ok (.iload_n 2, 1) := by decide +kernel
theorem dX9_lend_120 : decode cX9_lend 120 = .ok (.iload_n 3, 1) := by decide +kernel
theorem dX9_lend_121 : decode cX9_lend 121 = .ok (.iload 4, 2) := by decide +kernel
theorem dX9_lend_123 : decode cX9_lend 123 = .ok (.iload 5, 2) := by decide +kernel
theorem dX9_lend_125 : decode cX9_lend 125 = .ok (.invokevirtual 180, 3) := by decide +kernel
theorem dX9_lend_128 : decode cX9_lend 128 = .ok (.aload 6, 2) := by decide +kernel
theorem dX9_lend_130 : decode cX9_lend 130 = .ok (.getfield 177, 3) := by decide +kernel
theorem dX9_lend_133 : decode cX9_lend 133 = .ok (.iconst 1, 1) := by decide +kernel
theorem dX9_lend_134 : decode cX9_lend 134 = .ok (.isub, 1) := by decide +kernel
theorem dX9_lend_135 : decode cX9_lend 135 = .ok (.ireturn, 1) := by decide +kernel
theorem dX9_ofLoan_0 : decode cX9_ofLoan 0 = .ok (.aload_n 0, 1) := by decide +kernel
theorem dX9_ofLoan_1 : decode cX9_ofLoan 1 = .ok (.getfield 10, 3) := by decide +kernel
theorem dX9_ofLoan_4 : decode cX9_ofLoan 4 = .ok (.getfield 57, 3) := by decide +kernel
theorem dX9_ofLoan_7 : decode cX9_ofLoan 7 = .ok (.iload_n 1, 1) := by decide +kernel
theorem dX9_ofLoan_8 : decode cX9_ofLoan 8 = .ok (.invokevirtual 184, 3) := by decide +kernel
theorem dX9_ofLoan_11 : decode cX9_ofLoan 11 = .ok (.ifCond .ne 9, 3) := by decide +kernel
theorem dX9_ofLoan_14 : decode cX9_ofLoan 14 = .ok (.aload_n 0, 1) := by decide +kernel
theorem dX9_ofLoan_15 : decode cX9_ofLoan 15 = .ok (.iconst 1, 1) := by decide +kernel
theorem dX9_ofLoan_16 : decode cX9_ofLoan 16 = .ok (.invokevirtual 64, 3) := by decide +kernel
theorem dX9_ofLoan_19 : decode cX9_ofLoan 19 = .ok (.ireturn, 1) := by decide +kernel
theorem dX9_ofLoan_20 : decode cX9_ofLoan 20 = .ok (.aload_n 0, 1) := by decide +kernel
theorem dX9_ofLoan_21 : decode cX9_ofLoan 21 = .ok (.getfield 10, 3) := by decide +kernel
theorem dX9_ofLoan_24 : decode cX9_ofLoan 24 = .ok (.getfield 57, 3) := by decide +kernel
theorem dX9_ofLoan_27 : decode cX9_ofLoan 27 = .ok (.getfield 187, 3) := by decide +kernel
theorem dX9_ofLoan_30 : decode cX9_ofLoan 30 = .ok (.iload_n 1, 1) := by decide +kernel
theorem dX9_ofLoan_31 : decode cX9_ofLoan 31 = .ok (.aaload, 1) := by decide +kernel
theorem dX9_ofLoan_32 : decode cX9_ofLoan 32 = .ok (.astore_n 3, 1) := by decide +kernel
theorem dX9_ofLoan_33 : decode cX9_ofLoan 33 = .ok (.iload_n 2, 1) := by decide +kernel
theorem dX9_ofLoan_34 : decode cX9_ofLoan 34 = .ok (.tableswitch 59 0 4 #[34, 39, 44, 49, 54], 34) := by decide +kernel
theorem dX9_ofLoan_68 : decode cX9_ofLoan 68 = .ok (.aload_n 3, 1) := by decide +kernel
theorem dX9_ofLoan_69 : decode cX9_ofLoan 69 = .ok (.getfield 191, 3) := by decide +kernel
theorem dX9_ofLoan_72 : decode cX9_ofLoan 72 = .ok (.ireturn, 1) := by decide +kernel
theorem dX9_ofLoan_73 : decode cX9_ofLoan 73 = .ok (.aload_n 3, 1) := by decide +kernel
theorem dX9_ofLoan_74 : decode cX9_ofLoan 74 = .ok (.getfield 196, 3) := by decide +kernel
theorem dX9_ofLoan_77 : decode cX9_ofLoan 77 = .ok (.ireturn, 1) := by decide +kernel
theorem dX9_ofLoan_78 : decode cX9_ofLoan 78 = .ok (.aload_n 3, 1) := by decide +kernel
theorem dX9_ofLoan_79 : decode cX9_ofLoan 79 = .ok (.getfield 199, 3) := by decide +kernel
theorem dX9_ofLoan_82 : decode cX9_ofLoan 82 = .ok (.ireturn, 1) := by decide +kernel
theorem dX9_ofLoan_83 : decode cX9_ofLoan 83 = .ok (.aload_n 3, 1) := by decide +kernel
theorem dX9_ofLoan_84 : decode cX9_ofLoan 84 = .ok (.getfield 202, 3) := by decide +kernel
theorem dX9_ofLoan_87 : decode cX9_ofLoan 87 = .ok (.ireturn, 1) := by decide +kernel
theorem dX9_ofLoan_88 : decode cX9_ofLoan 88 = .ok (.aload_n 3, 1) := by decide +kernel
theorem dX9_ofLoan_89 : decode cX9_ofLoan 89 = .ok (.getfield 204, 3) := by decide +kernel
theorem dX9_ofLoan_92 : decode cX9_ofLoan 92 = .ok (.ireturn, 1) := by decide +kernel
theorem dX9_ofLoan_93 : decode cX9_ofLoan 93 = .ok (.aload_n 0, 1) := by decide +kernel
theorem dX9_ofLoan_94 : decode cX9_ofLoan 94 = .ok (.iconst 1, 1) := by decide +kernel
theorem dX9_ofLoan_95 : decode cX9_ofLoan 95 = .ok (.invokevirtual 64, 3) := by decide +kernel
theorem dX9_ofLoan_98 : decode cX9_ofLoan 98 = .ok (.ireturn, 1) := by decide +kernel
theorem dX9_back_0 : decode cX9_back 0 = .ok (.aload_n 0, 1) := by decide +kernel
theorem dX9_back_1 : decode cX9_back 1 = .ok (.getfield 10, 3) := by decide +kernel
theorem dX9_back_4 : decode cX9_back 4 = .ok (.getfield 57, 3) := by decide +kernel
theorem dX9_back_7 : decode cX9_back 7 = .ok (.astore_n 2, 1) := by decide +kernel
theorem dX9_back_8 : decode cX9_back 8 = .ok (.aload_n 2, 1) := by decide +kernel
theorem dX9_back_9 : decode cX9_back 9 = .ok (.iload_n 1, 1) := by decide +kernel
theorem dX9_back_10 : decode cX9_back 10 = .ok (.invokevirtual 184, 3) := by decide +kernel
theorem dX9_back_13 : decode cX9_back 13 = .ok (.ifCond .ne 9, 3) := by decide +kernel
theorem dX9_back_16 : decode cX9_back 16 = .ok (.aload_n 0, 1) := by decide +kernel
theorem dX9_back_17 : decode cX9_back 17 = .ok (.iconst 1, 1) := by decide +kernel
theorem dX9_back_18 : decode cX9_back 18 = .ok (.invokevirtual 64, 3) := by decide +kernel
theorem dX9_back_21 : decode cX9_back 21 = .ok (.ireturn, 1) := by decide +kernel
theorem dX9_back_22 : decode cX9_back 22 = .ok (.aload_n 2, 1) := by decide +kernel
theorem dX9_back_23 : decode cX9_back 23 = .ok (.aload_n 2, 1) := by decide +kernel
theorem dX9_back_24 : decode cX9_back 24 = .ok (.getfield 187, 3) := by decide +kernel
theorem dX9_back_27 : decode cX9_back 27 = .ok (.iload_n 1, 1) := by decide +kernel
theorem dX9_back_28 : decode cX9_back 28 = .ok (.aaload, 1) := by decide +kernel
theorem dX9_back_29 : decode cX9_back 29 = .ok (.invokevirtual 207, 3) := by decide +kernel
theorem dX9_back_32 : decode cX9_back 32 = .ok (.ifCond .ne 9, 3) := by decide +kernel
theorem dX9_back_35 : decode cX9_back 35 = .ok (.aload_n 0, 1) := by decide +kernel
theorem dX9_back_36 : decode cX9_back 36 = .ok (.iconst 3, 1) := by decide +kernel
theorem dX9_back_37 : decode cX9_back 37 = .ok (.invokevirtual 64, 3) := by decide +kernel
theorem dX9_back_40 : decode cX9_back 40 = .ok (.ireturn, 1) := by decide +kernel
theorem dX9_back_41 : decode cX9_back 41 = .ok (.aload_n 2, 1) := by decide +kernel
theorem dX9_back_42 : decode cX9_back 42 = .ok (.iload_n 1, 1) := by decide +kernel
theorem dX9_back_43 : decode cX9_back 43 = .ok (.aload_n 0, 1) := by decide +kernel
theorem dX9_back_44 : decode cX9_back 44 = .ok (.getfield 10, 3) := by decide +kernel
theorem dX9_back_47 : decode cX9_back 47 = .ok (.getfield 153, 3) := by decide +kernel
theorem dX9_back_50 : decode cX9_back 50 = .ok (.iconst 1, 1) := by decide +kernel
theorem dX9_back_51 : decode cX9_back 51 = .ok (.aaload, 1) := by decide +kernel
theorem dX9_back_52 : decode cX9_back 52 = .ok (.invokevirtual 211, 3) := by decide +kernel
theorem dX9_back_55 : decode cX9_back 55 = .ok (.ireturn, 1) := by decide +kernel
theorem dX9_fire_0 : decode cX9_fire 0 = .ok (.aload_n 0, 1) := by decide +kernel
theorem dX9_fire_1 : decode cX9_fire 1 = .ok (.getfield 10, 3) := by decide +kernel
theorem dX9_fire_4 : decode cX9_fire 4 = .ok (.getfield 57, 3) := by decide +kernel
theorem dX9_fire_7 : decode cX9_fire 7 = .ok (.astore 4, 2) := by decide +kernel
theorem dX9_fire_9 : decode cX9_fire 9 = .ok (.aload 4, 2) := by decide +kernel
theorem dX9_fire_11 : decode cX9_fire 11 = .ok (.iload_n 1, 1) := by decide +kernel
theorem dX9_fire_12 : decode cX9_fire 12 = .ok (.invokevirtual 119, 3) := by decide +kernel
theorem dX9_fire_15 : decode cX9_fire 15 = .ok (.ifCond .eq 18, 3) := by decide +kernel
theorem dX9_fire_18 : decode cX9_fire 18 = .ok (.aload_n 0, 1) := by decide +kernel
theorem dX9_fire_19 : decode cX9_fire 19 = .ok (.iload_n 2, 1) := by decide +kernel
theorem dX9_fire_20 : decode cX9_fire 20 = .ok (.invokevirtual 215, 3) := by decide +kernel
theorem dX9_fire_23 : decode cX9_fire 23 = .ok (.ifCond .eq 10, 3) := by decide +kernel
theorem dX9_fire_26 : decode cX9_fire 26 = .ok (.iload_n 3, 1) := by decide +kernel
theorem dX9_fire_27 : decode cX9_fire 27 = .ok (.invokestatic 218, 3) := by decide +kernel
theorem dX9_fire_30 : decode cX9_fire 30 = .ok (.ifCond .ne 9, 3) := by decide +kernel
theorem dX9_fire_33 : decode cX9_fire 33 = .ok (.aload_n 0, 1) := by decide +kernel
theorem dX9_fire_34 : decode cX9_fire 34 = .ok (.iconst 1, 1) := by decide +kernel
theorem dX9_fire_35 : decode cX9_fire 35 = .ok (.invokevirtual 64, 3) := by decide +kernel
theorem dX9_fire_38 : decode cX9_fire 38 = .ok (.ireturn, 1) := by decide +kernel
theorem dX9_fire_39 : decode cX9_fire 39 = .ok (.iload_n 2, 1) := by decide +kernel
theorem dX9_fire_40 : decode cX9_fire 40 = .ok (.ifCond .ne 9, 3) := by decide +kernel
theorem dX9_fire_43 : decode cX9_fire 43 = .ok (.aload_n 0, 1) := by decide +kernel
theorem dX9_fire_44 : decode cX9_fire 44 = .ok (.iconst 2, 1) := by decide +kernel
theorem dX9_fire_45 : decode cX9_fire 45 = .ok (.invokevirtual 64, 3) := by decide +kernel
theorem dX9_fire_48 : decode cX9_fire 48 = .ok (.ireturn, 1) := by decide +kernel
theorem dX9_fire_49 : decode cX9_fire 49 = .ok (.aload 4, 2) := by decide +kernel
theorem dX9_fire_51 : decode cX9_fire 51 = .ok (.getfield 111, 3) := by decide +kernel
theorem dX9_fire_54 : decode cX9_fire 54 = .ok (.iload_n 1, 1) := by decide +kernel
theorem dX9_fire_55 : decode cX9_fire 55 = .ok (.aaload, 1) := by decide +kernel
theorem dX9_fire_56 : decode cX9_fire 56 = .ok (.astore 5, 2) := by decide +kernel
theorem dX9_fire_58 : decode cX9_fire 58 = .ok (.aload 5, 2) := by decide +kernel
theorem dX9_fire_60 : decode cX9_fire 60 = .ok (.iload_n 2, 1) := by decide +kernel
theorem dX9_fire_61 : decode cX9_fire 61 = .ok (.invokevirtual 221, 3) := by decide +kernel
theorem dX9_fire_64 : decode cX9_fire 64 = .ok (.ifCond .ne 9, 3) := by decide +kernel
theorem dX9_fire_67 : decode cX9_fire 67 = .ok (.aload_n 0, 1) := by decide +kernel
theorem dX9_fire_68 : decode cX9_fire 68 = .ok (.iconst 3, 1) := by decide +kernel
theorem dX9_fire_69 : decode cX9_fire 69 = .ok (.invokevirtual 64, 3) := by decide +kernel
theorem dX9_fire_72 : decode cX9_fire 72 = .ok (.ireturn, 1) := by decide +kernel
theorem dX9_fire_73 : decode cX9_fire 73 = .ok (.aload_n 0, 1) := by decide +kernel
theorem dX9_fire_74 : decode cX9_fire 74 = .ok (.iload_n 2, 1) := by decide +kernel
theorem dX9_fire_75 : decode cX9_fire 75 = .ok (.iload_n 3, 1) := by decide +kernel
theorem dX9_fire_76 : decode cX9_fire 76 = .ok (.invokevirtual 224, 3) := by decide +kernel
theorem dX9_fire_79 : decode cX9_fire 79 = .ok (.istore 6, 2) := by decide +kernel
theorem dX9_fire_81 : decode cX9_fire 81 = .ok (.iload 6, 2) := by decide +kernel
theorem dX9_fire_83 : decode cX9_fire 83 = .ok (.iconst (-1), 1) := by decide +kernel
theorem dX9_fire_84 : decode cX9_fire 84 = .ok (.if_icmp .ne 9, 3) := by decide +kernel
theorem dX9_fire_87 : decode cX9_fire 87 = .ok (.aload_n 0, 1) := by decide +kernel
theorem dX9_fire_88 : decode cX9_fire 88 = .ok (.iconst 5, 1) := by decide +kernel
theorem dX9_fire_89 : decode cX9_fire 89 = .ok (.invokevirtual 64, 3) := by decide +kernel
theorem dX9_fire_92 : decode cX9_fire 92 = .ok (.ireturn, 1) := by decide +kernel
theorem dX9_fire_93 : decode cX9_fire 93 = .ok (.aload 5, 2) := by decide +kernel
theorem dX9_fire_95 : decode cX9_fire 95 = .ok (.iload_n 2, 1) := by decide +kernel
theorem dX9_fire_96 : decode cX9_fire 96 = .ok (.invokevirtual 228, 3) := by decide +kernel
theorem dX9_fire_99 : decode cX9_fire 99 = .ok (.iload 6, 2) := by decide +kernel
theorem dX9_fire_101 : decode cX9_fire 101 = .ok (.ireturn, 1) := by decide +kernel
theorem dX9_days_0 : decode cX9_days 0 = .ok (.iload_n 1, 1) := by decide +kernel
theorem dX9_days_1 : decode cX9_days 1 = .ok (.iconst 1, 1) := by decide +kernel
theorem dX9_days_2 : decode cX9_days 2 = .ok (.bipush 60, 2) := by decide +kernel
theorem dX9_days_4 : decode cX9_days 4 = .ok (.invokestatic 100, 3) := by decide +kernel
theorem dX9_days_7 : decode cX9_days 7 = .ok (.ifCond .ne 9, 3) := by decide +kernel
theorem dX9_days_10 : decode cX9_days 10 = .ok (.aload_n 0, 1) := by decide +kernel
theorem dX9_days_11 : decode cX9_days 11 = .ok (.iconst 1, 1) := by decide +kernel
theorem dX9_days_12 : decode cX9_days 12 = .ok (.invokevirtual 64, 3) := by decide +kernel
theorem dX9_days_15 : decode cX9_days 15 = .ok (.ireturn, 1) := by decide +kernel
theorem dX9_days_16 : decode cX9_days 16 = .ok (.aload_n 0, 1) := by decide +kernel
theorem dX9_days_17 : decode cX9_days 17 = .ok (.getfield 10, 3) := by decide +kernel
theorem dX9_days_20 : decode cX9_days 20 = .ok (.getfield 57, 3) := by decide +kernel
theorem dX9_days_23 : decode cX9_days 23 = .ok (.getfield 231, 3) := by decide +kernel
theorem dX9_days_26 : decode cX9_days 26 = .ok (.iload_n 1, 1) := by decide +kernel
theorem dX9_days_27 : decode cX9_days 27 = .ok (.iadd, 1) := by decide +kernel
theorem dX9_days_28 : decode cX9_days 28 = .ok (.sipush 9999, 3) := by decide +kernel
theorem dX9_days_31 : decode cX9_days 31 = .ok (.if_icmp .le 9, 3) := by decide +kernel
theorem dX9_days_34 : decode cX9_days 34 = .ok (.aload_n 0, 1) := by decide +kernel
theorem dX9_days_35 : decode cX9_days 35 = .ok (.iconst 3, 1) := by decide +kernel
theorem dX9_days_36 : decode cX9_days 36 = .ok (.invokevirtual 64, 3) := by decide +kernel
theorem dX9_days_39 : decode cX9_days 39 = .ok (.ireturn, 1) := by decide +kernel
theorem dX9_days_40 : decode cX9_days 40 = .ok (.aload_n 0, 1) := by decide +kernel
theorem dX9_days_41 : decode cX9_days 41 = .ok (.getfield 10, 3) := by decide +kernel
theorem dX9_days_44 : decode cX9_days 44 = .ok (.getfield 57, 3) := by decide +kernel
theorem dX9_days_47 : decode cX9_days 47 = .ok (.iload_n 1, 1) := by decide +kernel
theorem dX9_days_48 : decode cX9_days 48 = .ok (.aload_n 0, 1) := by decide +kernel
theorem dX9_days_49 : decode cX9_days 49 = .ok (.getfield 10, 3) := by decide +kernel
theorem dX9_days_52 : decode cX9_days 52 = .ok (.getfield 153, 3) := by decide +kernel
theorem dX9_days_55 : decode cX9_days 55 = .ok (.iconst 1, 1) := by decide +kernel
theorem dX9_days_56 : decode cX9_days 56 = .ok (.aaload, 1) := by decide +kernel
theorem dX9_days_57 : decode cX9_days 57 = .ok (.invokevirtual 234, 3) := by decide +kernel
theorem dX9_days_60 : decode cX9_days 60 = .ok (.aload_n 0, 1) := by decide +kernel
theorem dX9_days_61 : decode cX9_days 61 = .ok (.getfield 10, 3) := by decide +kernel
theorem dX9_days_64 : decode cX9_days 64 = .ok (.getfield 57, 3) := by decide +kernel
theorem dX9_days_67 : decode cX9_days 67 = .ok (.getfield 177, 3) := by decide +kernel
theorem dX9_days_70 : decode cX9_days 70 = .ok (.ireturn, 1) := by decide +kernel
theorem dX9_loose_0 : decode cX9_loose 0 = .ok (.iload_n 1, 1) := by decide +kernel
theorem dX9_loose_1 : decode cX9_loose 1 = .ok (.iconst 1, 1) := by decide +kernel
theorem dX9_loose_2 : decode cX9_loose 2 = .ok (.bipush 40, 2) := by decide +kernel
theorem dX9_loose_4 : decode cX9_loose 4 = .ok (.invokestatic 100, 3) := by decide +kernel
theorem dX9_loose_7 : decode cX9_loose 7 = .ok (.ifCond .ne 9, 3) := by decide +kernel
theorem dX9_loose_10 : decode cX9_loose 10 = .ok (.aload_n 0, 1) := by decide +kernel
theorem dX9_loose_11 : decode cX9_loose 11 = .ok (.iconst 1, 1) := by decide +kernel
theorem dX9_loose_12 : decode cX9_loose 12 = .ok (.invokevirtual 64, 3) := by decide +kernel
theorem dX9_loose_15 : decode cX9_loose 15 = .ok (.ireturn, 1) := by decide +kernel
theorem dX9_loose_16 : decode cX9_loose 16 = .ok (.aload_n 0, 1) := by decide +kernel
theorem dX9_loose_17 : decode cX9_loose 17 = .ok (.getfield 10, 3) := by decide +kernel
theorem dX9_loose_20 : decode cX9_loose 20 = .ok (.getfield 57, 3) := by decide +kernel
theorem dX9_loose_23 : decode cX9_loose 23 = .ok (.getfield 231, 3) := by decide +kernel
theorem dX9_loose_26 : decode cX9_loose 26 = .ok (.iload_n 1, 1) := by decide +kernel
theorem dX9_loose_27 : decode cX9_loose 27 = .ok (.iadd, 1) := by decide +kernel
theorem dX9_loose_28 : decode cX9_loose 28 = .ok (.sipush 9999, 3) := by decide +kernel
theorem dX9_loose_31 : decode cX9_loose 31 = .ok (.if_icmp .le 9, 3) := by decide +kernel
theorem dX9_loose_34 : decode cX9_loose 34 = .ok (.aload_n 0, 1) := by decide +kernel
theorem dX9_loose_35 : decode cX9_loose 35 = .ok (.iconst 3, 1) := by decide +kernel
theorem dX9_loose_36 : decode cX9_loose 36 = .ok (.invokevirtual 64, 3) := by decide +kernel
theorem dX9_loose_39 : decode cX9_loose 39 = .ok (.ireturn, 1) := by decide +kernel
theorem dX9_loose_40 : decode cX9_loose 40 = .ok (.iconst 0, 1) := by decide +kernel
theorem dX9_loose_41 : decode cX9_loose 41 = .ok (.istore_n 2, 1) := by decide +kernel
theorem dX9_loose_42 : decode cX9_loose 42 = .ok (.iload_n 2, 1) := by decide +kernel
theorem dX9_loose_43 : decode cX9_loose 43 = .ok (.iload_n 1, 1) := by decide +kernel
theorem dX9_loose_44 : decode cX9_loose 44 = .ok (.if_icmp .ge 33, 3) := by decide +kernel
theorem dX9_loose_47 : decode cX9_loose 47 = .ok (.aload_n 0, 1) := by decide +kernel
theorem dX9_loose_48 : decode cX9_loose 48 = .ok (.invokevirtual 238, 3) := by decide +kernel
theorem dX9_loose_51 : decode cX9_loose 51 = .ok (.aload_n 0, 1) := by decide +kernel
theorem dX9_loose_52 : decode cX9_loose 52 = .ok (.getfield 10, 3) := by decide +kernel
theorem dX9_loose_55 : decode cX9_loose 55 = .ok (.getfield 57, 3) := by decide +kernel
theorem dX9_loose_58 : decode cX9_loose 58 = .ok (.iconst 1, 1) := by decide +kernel
theorem dX9_loose_59 : decode cX9_loose 59 = .ok (.aload_n 0, 1) := by decide +kernel
theorem dX9_loose_60 : decode cX9_loose 60 = .ok (.getfield 10, 3) := by decide +kernel
theorem dX9_loose_63 : decode cX9_loose 63 = .ok (.getfield 153, 3) := by decide +kernel
theorem dX9_loose_66 : decode cX9_loose 66 = .ok (.iconst 1, 1) := by decide +kernel
theorem dX9_loose_67 : decode cX9_loose 67 = .ok (.aaload, 1) := by decide +kernel
theorem dX9_loose_68 : decode cX9_loose 68 = .ok (.invokevirtual 234, 3) := by decide +kernel
theorem dX9_loose_71 : decode cX9_loose 71 = .ok (.iinc 2 1, 3) := by decide +kernel
theorem dX9_loose_74 : decode cX9_loose 74 = .ok (.goto (-32), 3) := by decide +kernel
theorem dX9_loose_77 : decode cX9_loose 77 = .ok (.aload_n 0, 1) := by decide +kernel
theorem dX9_loose_78 : decode cX9_loose 78 = .ok (.getfield 10, 3) := by decide +kernel
theorem dX9_loose_81 : decode cX9_loose 81 = .ok (.getfield 57, 3) := by decide +kernel
theorem dX9_loose_84 : decode cX9_loose 84 = .ok (.getfield 177, 3) := by decide +kernel
theorem dX9_loose_87 : decode cX9_loose 87 = .ok (.ireturn, 1) := by decide +kernel
theorem dX9_colour_0 : decode cX9_colour 0 = .ok (.aload_n 0, 1) := by decide +kernel
theorem dX9_colour_1 : decode cX9_colour 1 = .ok (.iload_n 1, 1) := by decide +kernel
theorem dX9_colour_2 : decode cX9_colour 2 = .ok (.invokevirtual 215, 3) := by decide +kernel
theorem dX9_colour_5 : decode cX9_colour 5 = .ok (.ifCond .eq 10, 3) := by decide +kernel
theorem dX9_colour_8 : decode cX9_colour 8 = .ok (.iload_n 2, 1) := by decide +kernel
theorem dX9_colour_9 : decode cX9_colour 9 = .ok (.invokestatic 218, 3) := by decide +kernel
theorem dX9_colour_12 : decode cX9_colour 12 = .ok (.ifCond .ne 9, 3) := by decide +kernel
theorem dX9_colour_15 : decode cX9_colour 15 = .ok (.aload_n 0, 1) := by decide +kernel
theorem dX9_colour_16 : decode cX9_colour 16 = .ok (.iconst 1, 1) := by decide +kernel
theorem dX9_colour_17 : decode cX9_colour 17 = .ok (.invokevirtual 64, 3) := by decide +kernel
theorem dX9_colour_20 : decode cX9_colour 20 = .ok (.ireturn, 1) := by decide +kernel
theorem dX9_colour_21 : decode cX9_colour 21 = .ok (.aload_n 0, 1) := by decide +kernel
theorem dX9_colour_22 : decode cX9_colour 22 = .ok (.iload_n 1, 1) := by decide +kernel
theorem dX9_colour_23 : decode cX9_colour 23 = .ok (.iload_n 2, 1) := by decide +kernel
theorem dX9_colour_24 : decode cX9_colour 24 = .ok (.invokevirtual 224, 3) := by decide +kernel
theorem dX9_colour_27 : decode cX9_colour 27 = .ok (.istore_n 3, 1) := by decide +kernel
theorem dX9_colour_28 : decode cX9_colour 28 = .ok (.iload_n 3, 1) := by decide +kernel
theorem dX9_colour_29 : decode cX9_colour 29 = .ok (.iconst (-1), 1) := by decide +kernel
theorem dX9_colour_30 : decode cX9_colour 30 = .ok (.if_icmp .ne 11, 3) := by decide +kernel
theorem dX9_colour_33 : decode cX9_colour 33 = .ok (.aload_n 0, 1) := by decide +kernel
theorem dX9_colour_34 : decode cX9_colour 34 = .ok (.iconst 5, 1) := by decide +kernel
theorem dX9_colour_35 : decode cX9_colour 35 = .ok (.invokevirtual 64, 3) := by decide +kernel
theorem dX9_colour_38 : decode cX9_colour 38 = .ok (.goto 4, 3) := by decide +kernel
theorem dX9_colour_41 : decode cX9_colour 41 = .ok (.iload_n 3, 1) := by decide +kernel
theorem dX9_colour_42 : decode cX9_colour 42 = .ok (.ireturn, 1) := by decide +kernel
theorem dX9_then_0 : decode cX9_then 0 = .ok (.iload_n 1, 1) := by decide +kernel
theorem dX9_then_1 : decode cX9_then 1 = .ok (.iconst 0, 1) := by decide +kernel
theorem dX9_then_2 : decode cX9_then 2 = .ok (.bipush 60, 2) := by decide +kernel
theorem dX9_then_4 : decode cX9_then 4 = .ok (.invokestatic 100, 3) := by decide +kernel
theorem dX9_then_7 : decode cX9_then 7 = .ok (.ifCond .eq 17, 3) := by decide +kernel
theorem dX9_then_10 : decode cX9_then 10 = .ok (.aload_n 0, 1) := by decide +kernel
theorem dX9_then_11 : decode cX9_then 11 = .ok (.getfield 10, 3) := by decide +kernel
theorem dX9_then_14 : decode cX9_then 14 = .ok (.getfield 57, 3) := by decide +kernel
theorem dX9_then_17 : decode cX9_then 17 = .ok (.iload_n 2, 1) := by decide +kernel
theorem dX9_then_18 : decode cX9_then 18 = .ok (.invokevirtual 119, 3) := by decide +kernel
theorem dX9_then_21 : decode cX9_then 21 = .ok (.ifCond .ne 9, 3) := by decide +kernel
theorem dX9_then_24 : decode cX9_then 24 = .ok (.aload_n 0, 1) := by decide +kernel
theorem dX9_then_25 : decode cX9_then 25 = .ok (.iconst 1, 1) := by decide +kernel
theorem dX9_then_26 : decode cX9_then 26 = .ok (.invokevirtual 64, 3) := by decide +kernel
theorem dX9_then_29 : decode cX9_then 29 = .ok (.ireturn, 1) := by decide +kernel
theorem dX9_then_30 : decode cX9_then 30 = .ok (.iload_n 3, 1) := by decide +kernel
theorem dX9_then_31 : decode cX9_then 31 = .ok (.iconst (-1), 1) := by decide +kernel
theorem dX9_then_32 : decode cX9_then 32 = .ok (.if_icmp .eq 23, 3) := by decide +kernel
theorem dX9_then_35 : decode cX9_then 35 = .ok (.aload_n 0, 1) := by decide +kernel
theorem dX9_then_36 : decode cX9_then 36 = .ok (.getfield 10, 3) := by decide +kernel
theorem dX9_then_39 : decode cX9_then 39 = .ok (.getfield 57, 3) := by decide +kernel
theorem dX9_then_42 : decode cX9_then 42 = .ok (.iload_n 3, 1) := by decide +kernel
theorem dX9_then_43 : decode cX9_then 43 = .ok (.invokevirtual 82, 3) := by decide +kernel
theorem dX9_then_46 : decode cX9_then 46 = .ok (.ifCond .ne 9, 3) := by decide +kernel
theorem dX9_then_49 : decode cX9_then 49 = .ok (.aload_n 0, 1) := by decide +kernel
theorem dX9_then_50 : decode cX9_then 50 = .ok (.iconst 1, 1) := by decide +kernel
theorem dX9_then_51 : decode cX9_then 51 = .ok (.invokevirtual 64, 3) := by decide +kernel
theorem dX9_then_54 : decode cX9_then 54 = .ok (.ireturn, 1) := by decide +kernel
theorem dX9_then_55 : decode cX9_then 55 = .ok (.aload_n 0, 1) := by decide +kernel
theorem dX9_then_56 : decode cX9_then 56 = .ok (.getfield 22, 3) := by decide +kernel
theorem dX9_then_59 : decode cX9_then 59 = .ok (.aload_n 0, 1) := by decide +kernel
theorem dX9_then_60 : decode cX9_then 60 = .ok (.getfield 10, 3) := by decide +kernel
theorem dX9_then_63 : decode cX9_then 63 = .ok (.getfield 57, 3) := by decide +kernel
theorem dX9_then_66 : decode cX9_then 66 = .ok (.invokevirtual 241, 3) := by decide +kernel
theorem dX9_then_69 : decode cX9_then 69 = .ok (.aload_n 0, 1) := by decide +kernel
theorem dX9_then_70 : decode cX9_then 70 = .ok (.getfield 22, 3) := by decide +kernel
theorem dX9_then_73 : decode cX9_then 73 = .ok (.iload_n 1, 1) := by decide +kernel
theorem dX9_then_74 : decode cX9_then 74 = .ok (.aload_n 0, 1) := by decide +kernel
theorem dX9_then_75 : decode cX9_then 75 = .ok (.getfield 10, 3) := by decide +kernel
theorem dX9_then_78 : decode cX9_then 78 = .ok (.getfield 153, 3) := by decide +kernel
theorem dX9_then_81 : decode cX9_then 81 = .ok (.iconst 1, 1) := by decide +kernel
theorem dX9_then_82 : decode cX9_then 82 = .ok (.aaload, 1) := by decide +kernel
theorem dX9_then_83 : decode cX9_then 83 = .ok (.invokevirtual 234, 3) := by decide +kernel
theorem dX9_then_86 : decode cX9_then 86 = .ok (.aload_n 0, 1) := by decide +kernel
theorem dX9_then_87 : decode cX9_then 87 = .ok (.getfield 22, 3) := by decide +kernel
theorem dX9_then_90 : decode cX9_then 90 = .ok (.getfield 111, 3) := by decide +kernel
theorem dX9_then_93 : decode cX9_then 93 = .ok (.iload_n 2, 1) := by decide +kernel
theorem dX9_then_94 : decode cX9_then 94 = .ok (.aaload, 1) := by decide +kernel
theorem dX9_then_95 : decode cX9_then 95 = .ok (.astore 4, 2) := by decide +kernel
theorem dX9_then_97 : decode cX9_then 97 = .ok (.iload_n 3, 1) := by decide +kernel
theorem dX9_then_98 : decode cX9_then 98 = .ok (.iconst (-1), 1) := by decide +kernel
theorem dX9_then_99 : decode cX9_then 99 = .ok (.if_icmp .ne 11, 3) := by decide +kernel
theorem dX9_then_102 : decode cX9_then 102 = .ok (.aload 4, 2) := by decide +kernel
theorem dX9_then_104 : decode cX9_then 104 = .ok (.getfield 125, 3) := by decide +kernel
theorem dX9_then_107 : decode cX9_then 107 = .ok (.goto 10, 3) := by decide +kernel
theorem dX9_then_110 : decode cX9_then 110 = .ok (.aload 4, 2) := by decide +kernel
theorem dX9_then_112 : decode cX9_then 112 = .ok (.getfield 134, 3) := by decide +kernel
theorem dX9_then_115 : decode cX9_then 115 = .ok (.iload_n 3, 1) := by decide +kernel
theorem dX9_then_116 : decode cX9_then 116 = .ok (.iaload, 1) := by decide +kernel
theorem dX9_then_117 : decode cX9_then 117 = .ok (.ireturn, 1) := by decide +kernel
theorem dX9_breaks_0 : decode cX9_breaks 0 = .ok (.aload_n 0, 1) := by decide +kernel
theorem dX9_breaks_1 : decode cX9_breaks 1 = .ok (.getfield 10, 3) := by decide +kernel
theorem dX9_breaks_4 : decode cX9_breaks 4 = .ok (.getfield 57, 3) := by decide +kernel
theorem dX9_breaks_7 : decode cX9_breaks 7 = .ok (.iload_n 1, 1) := by decide +kernel
theorem dX9_breaks_8 : decode cX9_breaks 8 = .ok (.invokevirtual 119, 3) := by decide +kernel
theorem dX9_breaks_11 : decode cX9_breaks 11 = .ok (.ifCond .ne 9, 3) := by decide +kernel
theorem dX9_breaks_14 : decode cX9_breaks 14 = .ok (.aload_n 0, 1) := by decide +kernel
theorem dX9_breaks_15 : decode cX9_breaks 15 = .ok (.iconst 1, 1) := by decide +kernel
theorem dX9_breaks_16 : decode cX9_breaks 16 = .ok (.invokevirtual 64, 3) := by decide +kernel
theorem dX9_breaks_19 : decode cX9_breaks 19 = .ok (.ireturn, 1) := by decide +kernel
theorem dX9_breaks_20 : decode cX9_breaks 20 = .ok (.aload_n 0, 1) := by decide +kernel
theorem dX9_breaks_21 : decode cX9_breaks 21 = .ok (.getfield 22, 3) := by decide +kernel
theorem dX9_breaks_24 : decode cX9_breaks 24 = .ok (.aload_n 0, 1) := by decide +kernel
theorem dX9_breaks_25 : decode cX9_breaks 25 = .ok (.getfield 10, 3) := by decide +kernel
theorem dX9_breaks_28 : decode cX9_breaks 28 = .ok (.getfield 57, 3) := by decide +kernel
theorem dX9_breaks_31 : decode cX9_breaks 31 = .ok (.invokevirtual 241, 3) := by decide +kernel
theorem dX9_breaks_34 : decode cX9_breaks 34 = .ok (.iconst 1, 1) := by decide +kernel
theorem dX9_breaks_35 : decode cX9_breaks 35 = .ok (.istore_n 2, 1) := by decide +kernel
theorem dX9_breaks_36 : decode cX9_breaks 36 = .ok (.iload_n 2, 1) := by decide +kernel
theorem dX9_breaks_37 : decode cX9_breaks 37 = .ok (.bipush 60, 2) := by decide +kernel
theorem dX9_breaks_39 : decode cX9_breaks 39 = .ok (.if_icmp .gt 58, 3) := by decide +kernel
theorem dX9_breaks_42 : decode cX9_breaks 42 = .ok (.aload_n 0, 1) := by decide +kernel
theorem dX9_breaks_43 : decode cX9_breaks 43 = .ok (.getfield 22, 3) := by decide +kernel
theorem dX9_breaks_46 : decode cX9_breaks 46 = .ok (.iconst 1, 1) := by decide +kernel
theorem dX9_breaks_47 : decode cX9_breaks 47 = .ok (.aload_n 0, 1) := by decide +kernel
theorem dX9_breaks_48 : decode cX9_breaks 48 = .ok (.getfield 10, 3) := by decide +kernel
theorem dX9_breaks_51 : decode cX9_breaks 51 = .ok (.getfield 153, 3) := by decide +kernel
theorem dX9_breaks_54 : decode cX9_breaks 54 = .ok (.iconst 1, 1) := by decide +kernel
theorem dX9_breaks_55 : decode cX9_breaks 55 = .ok (.aaload, 1) := by decide +kernel
theorem dX9_breaks_56 : decode cX9_breaks 56 = .ok (.invokevirtual 234, 3) := by decide +kernel
theorem dX9_breaks_59 : decode cX9_breaks 59 = .ok (.aload_n 0, 1) := by decide +kernel
theorem dX9_breaks_60 : decode cX9_breaks 60 = .ok (.getfield 22, 3) := by decide +kernel
theorem dX9_breaks_63 : decode cX9_breaks 63 = .ok (.getfield 111, 3) := by decide +kernel
theorem dX9_breaks_66 : decode cX9_breaks 66 = .ok (.iload_n 1, 1) := by decide +kernel
theorem dX9_breaks_67 : decode cX9_breaks 67 = .ok (.aaload, 1) := by decide +kernel
theorem dX9_breaks_68 : decode cX9_breaks 68 = .ok (.getfield 125, 3) := by decide +kernel
theorem dX9_breaks_71 : decode cX9_breaks 71 = .ok (.aload_n 0, 1) := by decide +kernel
theorem dX9_breaks_72 : decode cX9_breaks 72 = .ok (.getfield 10, 3) := by decide +kernel
theorem dX9_breaks_75 : decode cX9_breaks 75 = .ok (.getfield 57, 3) := by decide +kernel
theorem dX9_breaks_78 : decode cX9_breaks 78 = .ok (.getfield 111, 3) := by decide +kernel
theorem dX9_breaks_81 : decode cX9_breaks 81 = .ok (.iload_n 1, 1) := by decide +kernel
theorem dX9_breaks_82 : decode cX9_breaks 82 = .ok (.aaload, 1) := by decide +kernel
theorem dX9_breaks_83 : decode cX9_breaks 83 = .ok (.getfield 125, 3) := by decide +kernel
theorem dX9_breaks_86 : decode cX9_breaks 86 = .ok (.if_icmp .le 5, 3) := by decide +kernel
theorem dX9_breaks_89 : decode cX9_breaks 89 = .ok (.iload_n 2, 1) := by decide +kernel
theorem dX9_breaks_90 : decode cX9_breaks 90 = .ok (.ireturn, 1) := by decide +kernel
theorem dX9_breaks_91 : decode cX9_breaks 91 = .ok (.iinc 2 1, 3) := by decide +kernel
theorem dX9_breaks_94 : decode cX9_breaks 94 = .ok (.goto (-58), 3) := by decide +kernel
theorem dX9_breaks_97 : decode cX9_breaks 97 = .ok (.aload_n 0, 1) := by decide +kernel
theorem dX9_breaks_98 : decode cX9_breaks 98 = .ok (.iconst 2, 1) := by decide +kernel
theorem dX9_breaks_99 : decode cX9_breaks 99 = .ok (.invokevirtual 64, 3) := by decide +kernel
theorem dX9_breaks_102 : decode cX9_breaks 102 = .ok (.ireturn, 1) := by decide +kernel
theorem dX9_recipe_0 : decode cX9_recipe 0 = .ok (.aload_n 0, 1) := by decide +kernel
theorem dX9_recipe_1 : decode cX9_recipe 1 = .ok (.getfield 10, 3) := by decide +kernel
theorem dX9_recipe_4 : decode cX9_recipe 4 = .ok (.getfield 57, 3) := by decide +kernel
theorem dX9_recipe_7 : decode cX9_recipe 7 = .ok (.iload_n 1, 1) := by decide +kernel
theorem dX9_recipe_8 : decode cX9_recipe 8 = .ok (.invokevirtual 119, 3) := by decide +kernel
theorem dX9_recipe_11 : decode cX9_recipe 11 = .ok (.ifCond .eq 17, 3) := by decide +kernel
theorem dX9_recipe_14 : decode cX9_recipe 14 = .ok (.iload_n 2, 1) := by decide +kernel
theorem dX9_recipe_15 : decode cX9_recipe 15 = .ok (.invokestatic 245, 3) := by decide +kernel
theorem dX9_recipe_18 : decode cX9_recipe 18 = .ok (.ifCond .eq 10, 3) := by decide +kernel
theorem dX9_recipe_21 : decode cX9_recipe 21 = .ok (.iload_n 3, 1) := by decide +kernel
theorem dX9_recipe_22 : decode cX9_recipe 22 = .ok (.invokestatic 218, 3) := by decide +kernel
theorem dX9_recipe_25 : decode cX9_recipe 25 = .ok (.ifCond .ne 9, 3) := by decide +kernel
theorem dX9_recipe_28 : decode cX9_recipe 28 = .ok (.aload_n 0, 1) := by decide +kernel
theorem dX9_recipe_29 : decode cX9_recipe 29 = .ok (.iconst 1, 1) := by decide +kernel
theorem dX9_recipe_30 : decode cX9_recipe 30 = .ok (.invokevirtual 64, 3) := by decide +kernel
theorem dX9_recipe_33 : decode cX9_recipe 33 = .ok (.ireturn, 1) := by decide +kernel
theorem dX9_recipe_34 : decode cX9_recipe 34 = .ok (.aload_n 0, 1) := by decide +kernel
theorem dX9_recipe_35 : decode cX9_recipe 35 = .ok (.aload_n 0, 1) := by decide +kernel
theorem dX9_recipe_36 : decode cX9_recipe 36 = .ok (.getfield 10, 3) := by decide +kernel
theorem dX9_recipe_39 : decode cX9_recipe 39 = .ok (.getfield 57, 3) := by decide +kernel
end
section
theorem dX9_recipe_42 : decode cX9_recipe 42 = .ok (.getfield 111, 3) := by decide +kernel
theorem dX9_recipe_45 : decode cX9_recipe 45 = .ok (.iload_n 1, 1) := by decide +kernel
theorem dX9_recipe_46 : decode cX9_recipe 46 = .ok (.aaload, 1) := by decide +kernel
theorem dX9_recipe_47 : decode cX9_recipe 47 = .ok (.iload_n 3, 1) := by decide +kernel
theorem dX9_recipe_48 : decode cX9_recipe 48 = .ok (.invokevirtual 248, 3) := by decide +kernel
theorem dX9_recipe_51 : decode cX9_recipe 51 = .ok (.aload_n 0, 1) := by decide +kernel
theorem dX9_recipe_52 : decode cX9_recipe 52 = .ok (.iload_n 2, 1) := by decide +kernel
theorem dX9_recipe_53 : decode cX9_recipe 53 = .ok (.invokevirtual 252, 3) := by decide +kernel
theorem dX9_recipe_56 : decode cX9_recipe 56 = .ok (.istore 4, 2) := by decide +kernel
theorem dX9_recipe_58 : decode cX9_recipe 58 = .ok (.iload 4, 2) := by decide +kernel
theorem dX9_recipe_60 : decode cX9_recipe 60 = .ok (.ifCond .ne 11, 3) := by decide +kernel
theorem dX9_recipe_63 : decode cX9_recipe 63 = .ok (.aload_n 0, 1) := by decide +kernel
theorem dX9_recipe_64 : decode cX9_recipe 64 = .ok (.iconst 2, 1) := by decide +kernel
theorem dX9_recipe_65 : decode cX9_recipe 65 = .ok (.invokevirtual 64, 3) := by decide +kernel
theorem dX9_recipe_68 : decode cX9_recipe 68 = .ok (.goto 5, 3) := by decide +kernel
theorem dX9_recipe_71 : decode cX9_recipe 71 = .ok (.iload 4, 2) := by decide +kernel
theorem dX9_recipe_73 : decode cX9_recipe 73 = .ok (.ireturn, 1) := by decide +kernel
theorem dX9_heats_0 : decode cX9_heats 0 = .ok (.aload_n 0, 1) := by decide +kernel
theorem dX9_heats_1 : decode cX9_heats 1 = .ok (.iload_n 1, 1) := by decide +kernel
theorem dX9_heats_2 : decode cX9_heats 2 = .ok (.invokevirtual 215, 3) := by decide +kernel
theorem dX9_heats_5 : decode cX9_heats 5 = .ok (.ifCond .eq 10, 3) := by decide +kernel
theorem dX9_heats_8 : decode cX9_heats 8 = .ok (.iload_n 2, 1) := by decide +kernel
theorem dX9_heats_9 : decode cX9_heats 9 = .ok (.invokestatic 245, 3) := by decide +kernel
theorem dX9_heats_12 : decode cX9_heats 12 = .ok (.ifCond .ne 9, 3) := by decide +kernel
theorem dX9_heats_15 : decode cX9_heats 15 = .ok (.aload_n 0, 1) := by decide +kernel
theorem dX9_heats_16 : decode cX9_heats 16 = .ok (.iconst 1, 1) := by decide +kernel
theorem dX9_heats_17 : decode cX9_heats 17 = .ok (.invokevirtual 64, 3) := by decide +kernel
theorem dX9_heats_20 : decode cX9_heats 20 = .ok (.ireturn, 1) := by decide +kernel
theorem dX9_heats_21 : decode cX9_heats 21 = .ok (.aload_n 0, 1) := by decide +kernel
theorem dX9_heats_22 : decode cX9_heats 22 = .ok (.iload_n 1, 1) := by decide +kernel
theorem dX9_heats_23 : decode cX9_heats 23 = .ok (.iload_n 2, 1) := by decide +kernel
theorem dX9_heats_24 : decode cX9_heats 24 = .ok (.invokevirtual 255, 3) := by decide +kernel
theorem dX9_heats_27 : decode cX9_heats 27 = .ok (.ireturn, 1) := by decide +kernel
theorem dX9_burnt_0 : decode cX9_burnt 0 = .ok (.iload_n 1, 1) := by decide +kernel
theorem dX9_burnt_1 : decode cX9_burnt 1 = .ok (.invokestatic 258, 3) := by decide +kernel
theorem dX9_burnt_4 : decode cX9_burnt 4 = .ok (.ifCond .ne 9, 3) := by decide +kernel
theorem dX9_burnt_7 : decode cX9_burnt 7 = .ok (.aload_n 0, 1) := by decide +kernel
theorem dX9_burnt_8 : decode cX9_burnt 8 = .ok (.iconst 1, 1) := by decide +kernel
theorem dX9_burnt_9 : decode cX9_burnt 9 = .ok (.invokevirtual 64, 3) := by decide +kernel
theorem dX9_burnt_12 : decode cX9_burnt 12 = .ok (.ireturn, 1) := by decide +kernel
theorem dX9_burnt_13 : decode cX9_burnt 13 = .ok (.aload_n 0, 1) := by decide +kernel
theorem dX9_burnt_14 : decode cX9_burnt 14 = .ok (.getfield 42, 3) := by decide +kernel
theorem dX9_burnt_17 : decode cX9_burnt 17 = .ok (.iload_n 1, 1) := by decide +kernel
theorem dX9_burnt_18 : decode cX9_burnt 18 = .ok (.aaload, 1) := by decide +kernel
theorem dX9_burnt_19 : decode cX9_burnt 19 = .ok (.invokevirtual 261, 3) := by decide +kernel
theorem dX9_burnt_22 : decode cX9_burnt 22 = .ok (.ifCond .ne 17, 3) := by decide +kernel
theorem dX9_burnt_25 : decode cX9_burnt 25 = .ok (.aload_n 0, 1) := by decide +kernel
theorem dX9_burnt_26 : decode cX9_burnt 26 = .ok (.getfield 42, 3) := by decide +kernel
theorem dX9_burnt_29 : decode cX9_burnt 29 = .ok (.iload_n 1, 1) := by decide +kernel
theorem dX9_burnt_30 : decode cX9_burnt 30 = .ok (.aaload, 1) := by decide +kernel
theorem dX9_burnt_31 : decode cX9_burnt 31 = .ok (.getfield 265, 3) := by decide +kernel
theorem dX9_burnt_34 : decode cX9_burnt 34 = .ok (.bipush 10, 2) := by decide +kernel
theorem dX9_burnt_36 : decode cX9_burnt 36 = .ok (.if_icmp .le 9, 3) := by decide +kernel
theorem dX9_burnt_39 : decode cX9_burnt 39 = .ok (.aload_n 0, 1) := by decide +kernel
theorem dX9_burnt_40 : decode cX9_burnt 40 = .ok (.iconst 2, 1) := by decide +kernel
theorem dX9_burnt_41 : decode cX9_burnt 41 = .ok (.invokevirtual 64, 3) := by decide +kernel
theorem dX9_burnt_44 : decode cX9_burnt 44 = .ok (.ireturn, 1) := by decide +kernel
theorem dX9_burnt_45 : decode cX9_burnt 45 = .ok (.iconst 0, 1) := by decide +kernel
theorem dX9_burnt_46 : decode cX9_burnt 46 = .ok (.istore_n 2, 1) := by decide +kernel
theorem dX9_burnt_47 : decode cX9_burnt 47 = .ok (.iconst 0, 1) := by decide +kernel
theorem dX9_burnt_48 : decode cX9_burnt 48 = .ok (.istore_n 3, 1) := by decide +kernel
theorem dX9_burnt_49 : decode cX9_burnt 49 = .ok (.iload_n 3, 1) := by decide +kernel
theorem dX9_burnt_50 : decode cX9_burnt 50 = .ok (.aload_n 0, 1) := by decide +kernel
theorem dX9_burnt_51 : decode cX9_burnt 51 = .ok (.getfield 10, 3) := by decide +kernel
theorem dX9_burnt_54 : decode cX9_burnt 54 = .ok (.getfield 57, 3) := by decide +kernel
theorem dX9_burnt_57 : decode cX9_burnt 57 = .ok (.getfield 68, 3) := by decide +kernel
theorem dX9_burnt_60 : decode cX9_burnt 60 = .ok (.if_icmp .ge 40, 3) := by decide +kernel
theorem dX9_burnt_63 : decode cX9_burnt 63 = .ok (.aload_n 0, 1) := by decide +kernel
theorem dX9_burnt_64 : decode cX9_burnt 64 = .ok (.aload_n 0, 1) := by decide +kernel
theorem dX9_burnt_65 : decode cX9_burnt 65 = .ok (.getfield 10, 3) := by decide +kernel
theorem dX9_burnt_68 : decode cX9_burnt 68 = .ok (.getfield 57, 3) := by decide +kernel
theorem dX9_burnt_71 : decode cX9_burnt 71 = .ok (.getfield 72, 3) := by decide +kernel
theorem dX9_burnt_74 : decode cX9_burnt 74 = .ok (.iload_n 3, 1) := by decide +kernel
theorem dX9_burnt_75 : decode cX9_burnt 75 = .ok (.aaload, 1) := by decide +kernel
theorem dX9_burnt_76 : decode cX9_burnt 76 = .ok (.aload_n 0, 1) := by decide +kernel
theorem dX9_burnt_77 : decode cX9_burnt 77 = .ok (.getfield 42, 3) := by decide +kernel
theorem dX9_burnt_80 : decode cX9_burnt 80 = .ok (.iload_n 1, 1) := by decide +kernel
theorem dX9_burnt_81 : decode cX9_burnt 81 = .ok (.aaload, 1) := by decide +kernel
theorem dX9_burnt_82 : decode cX9_burnt 82 = .ok (.invokevirtual 266, 3) := by decide +kernel
theorem dX9_burnt_85 : decode cX9_burnt 85 = .ok (.ifCond .eq 9, 3) := by decide +kernel
theorem dX9_burnt_88 : decode cX9_burnt 88 = .ok (.iload_n 2, 1) := by decide +kernel
theorem dX9_burnt_89 : decode cX9_burnt 89 = .ok (.iconst 1, 1) := by decide +kernel
theorem dX9_burnt_90 : decode cX9_burnt 90 = .ok (.iload_n 3, 1) := by decide +kernel
theorem dX9_burnt_91 : decode cX9_burnt 91 = .ok (.ishl, 1) := by decide +kernel
theorem dX9_burnt_92 : decode cX9_burnt 92 = .ok (.ior, 1) := by decide +kernel
theorem dX9_burnt_93 : decode cX9_burnt 93 = .ok (.istore_n 2, 1) := by decide +kernel
theorem dX9_burnt_94 : decode cX9_burnt 94 = .ok (.iinc 3 1, 3) := by decide +kernel
theorem dX9_burnt_97 : decode cX9_burnt 97 = .ok (.goto (-48), 3) := by decide +kernel
theorem dX9_burnt_100 : decode cX9_burnt 100 = .ok (.iload_n 2, 1) := by decide +kernel
theorem dX9_burnt_101 : decode cX9_burnt 101 = .ok (.ireturn, 1) := by decide +kernel
theorem dX9_round_0 : decode cX9_round 0 = .ok (.aload_n 0, 1) := by decide +kernel
theorem dX9_round_1 : decode cX9_round 1 = .ok (.getfield 10, 3) := by decide +kernel
theorem dX9_round_4 : decode cX9_round 4 = .ok (.getfield 57, 3) := by decide +kernel
theorem dX9_round_7 : decode cX9_round 7 = .ok (.astore_n 1, 1) := by decide +kernel
theorem dX9_round_8 : decode cX9_round 8 = .ok (.iconst 0, 1) := by decide +kernel
theorem dX9_round_9 : decode cX9_round 9 = .ok (.istore_n 2, 1) := by decide +kernel
theorem dX9_round_10 : decode cX9_round 10 = .ok (.iconst 0, 1) := by decide +kernel
theorem dX9_round_11 : decode cX9_round 11 = .ok (.istore_n 3, 1) := by decide +kernel
theorem dX9_round_12 : decode cX9_round 12 = .ok (.iload_n 3, 1) := by decide +kernel
theorem dX9_round_13 : decode cX9_round 13 = .ok (.aload_n 1, 1) := by decide +kernel
theorem dX9_round_14 : decode cX9_round 14 = .ok (.getfield 68, 3) := by decide +kernel
theorem dX9_round_17 : decode cX9_round 17 = .ok (.if_icmp .ge 67, 3) := by decide +kernel
theorem dX9_round_20 : decode cX9_round 20 = .ok (.iconst 1, 1) := by decide +kernel
theorem dX9_round_21 : decode cX9_round 21 = .ok (.istore 4, 2) := by decide +kernel
theorem dX9_round_23 : decode cX9_round 23 = .ok (.iload 4, 2) := by decide +kernel
theorem dX9_round_25 : decode cX9_round 25 = .ok (.aload_n 1, 1) := by decide +kernel
theorem dX9_round_26 : decode cX9_round 26 = .ok (.getfield 108, 3) := by decide +kernel
theorem dX9_round_29 : decode cX9_round 29 = .ok (.if_icmp .ge 49, 3) := by decide +kernel
theorem dX9_round_32 : decode cX9_round 32 = .ok (.iconst 0, 1) := by decide +kernel
theorem dX9_round_33 : decode cX9_round 33 = .ok (.istore 5, 2) := by decide +kernel
theorem dX9_round_35 : decode cX9_round 35 = .ok (.iload 5, 2) := by decide +kernel
theorem dX9_round_37 : decode cX9_round 37 = .ok (.iload 4, 2) := by decide +kernel
theorem dX9_round_39 : decode cX9_round 39 = .ok (.if_icmp .ge 33, 3) := by decide +kernel
theorem dX9_round_42 : decode cX9_round 42 = .ok (.iload_n 2, 1) := by decide +kernel
theorem dX9_round_43 : decode cX9_round 43 = .ok (.aload_n 1, 1) := by decide +kernel
theorem dX9_round_44 : decode cX9_round 44 = .ok (.iload 5, 2) := by decide +kernel
theorem dX9_round_46 : decode cX9_round 46 = .ok (.iload 4, 2) := by decide +kernel
theorem dX9_round_48 : decode cX9_round 48 = .ok (.iload_n 3, 1) := by decide +kernel
theorem dX9_round_49 : decode cX9_round 49 = .ok (.invokevirtual 270, 3) := by decide +kernel
theorem dX9_round_52 : decode cX9_round 52 = .ok (.aload_n 1, 1) := by decide +kernel
theorem dX9_round_53 : decode cX9_round 53 = .ok (.iload 4, 2) := by decide +kernel
theorem dX9_round_55 : decode cX9_round 55 = .ok (.iload 5, 2) := by decide +kernel
theorem dX9_round_57 : decode cX9_round 57 = .ok (.iload_n 3, 1) := by decide +kernel
theorem dX9_round_58 : decode cX9_round 58 = .ok (.invokevirtual 270, 3) := by decide +kernel
theorem dX9_round_61 : decode cX9_round 61 = .ok (.invokestatic 273, 3) := by decide +kernel
theorem dX9_round_64 : decode cX9_round 64 = .ok (.iadd, 1) := by decide +kernel
theorem dX9_round_65 : decode cX9_round 65 = .ok (.istore_n 2, 1) := by decide +kernel
theorem dX9_round_66 : decode cX9_round 66 = .ok (.iinc 5 1, 3) := by decide +kernel
theorem dX9_round_69 : decode cX9_round 69 = .ok (.goto (-34), 3) := by decide +kernel
theorem dX9_round_72 : decode cX9_round 72 = .ok (.iinc 4 1, 3) := by decide +kernel
theorem dX9_round_75 : decode cX9_round 75 = .ok (.goto (-52), 3) := by decide +kernel
theorem dX9_round_78 : decode cX9_round 78 = .ok (.iinc 3 1, 3) := by decide +kernel
theorem dX9_round_81 : decode cX9_round 81 = .ok (.goto (-69), 3) := by decide +kernel
theorem dX9_round_84 : decode cX9_round 84 = .ok (.iload_n 2, 1) := by decide +kernel
theorem dX9_round_85 : decode cX9_round 85 = .ok (.ireturn, 1) := by decide +kernel
theorem dX9_lender_0 : decode cX9_lender 0 = .ok (.aload_n 0, 1) := by decide +kernel
theorem dX9_lender_1 : decode cX9_lender 1 = .ok (.getfield 10, 3) := by decide +kernel
theorem dX9_lender_4 : decode cX9_lender 4 = .ok (.getfield 57, 3) := by decide +kernel
theorem dX9_lender_7 : decode cX9_lender 7 = .ok (.astore 5, 2) := by decide +kernel
theorem dX9_lender_9 : decode cX9_lender 9 = .ok (.aload 5, 2) := by decide +kernel
theorem dX9_lender_11 : decode cX9_lender 11 = .ok (.iload_n 1, 1) := by decide +kernel
theorem dX9_lender_12 : decode cX9_lender 12 = .ok (.invokevirtual 119, 3) := by decide +kernel
theorem dX9_lender_15 : decode cX9_lender 15 = .ok (.ifCond .eq 16, 3) := by decide +kernel
theorem dX9_lender_18 : decode cX9_lender 18 = .ok (.aload 5, 2) := by decide +kernel
theorem dX9_lender_20 : decode cX9_lender 20 = .ok (.iload_n 2, 1) := by decide +kernel
theorem dX9_lender_21 : decode cX9_lender 21 = .ok (.invokevirtual 82, 3) := by decide +kernel
theorem dX9_lender_24 : decode cX9_lender 24 = .ok (.ifCond .eq 7, 3) := by decide +kernel
theorem dX9_lender_27 : decode cX9_lender 27 = .ok (.iconst 1, 1) := by decide +kernel
theorem dX9_lender_28 : decode cX9_lender 28 = .ok (.goto 4, 3) := by decide +kernel
theorem dX9_lender_31 : decode cX9_lender 31 = .ok (.iconst 0, 1) := by decide +kernel
theorem dX9_lender_32 : decode cX9_lender 32 = .ok (.istore 6, 2) := by decide +kernel
theorem dX9_lender_34 : decode cX9_lender 34 = .ok (.iload 6, 2) := by decide +kernel
theorem dX9_lender_36 : decode cX9_lender 36 = .ok (.ifCond .eq 24, 3) := by decide +kernel
theorem dX9_lender_39 : decode cX9_lender 39 = .ok (.iload_n 3, 1) := by decide +kernel
theorem dX9_lender_40 : decode cX9_lender 40 = .ok (.iconst 1, 1) := by decide +kernel
theorem dX9_lender_41 : decode cX9_lender 41 = .ok (.bipush 99, 2) := by decide +kernel
theorem dX9_lender_43 : decode cX9_lender 43 = .ok (.invokestatic 100, 3) := by decide +kernel
theorem dX9_lender_46 : decode cX9_lender 46 = .ok (.ifCond .eq 14, 3) := by decide +kernel
theorem dX9_lender_49 : decode cX9_lender 49 = .ok (.iload 4, 2) := by decide +kernel
theorem dX9_lender_51 : decode cX9_lender 51 = .ok (.iconst 1, 1) := by decide +kernel
theorem dX9_lender_52 : decode cX9_lender 52 = .ok (.bipush 20, 2) := by decide +kernel
theorem dX9_lender_54 : decode cX9_lender 54 = .ok (.invokestatic 100, 3) := by decide +kernel
theorem dX9_lender_57 : decode cX9_lender 57 = .ok (.ifCond .ne 9, 3) := by decide +kernel
theorem dX9_lender_60 : decode cX9_lender 60 = .ok (.aload_n 0, 1) := by decide +kernel
theorem dX9_lender_61 : decode cX9_lender 61 = .ok (.iconst 1, 1) := by decide +kernel
theorem dX9_lender_62 : decode cX9_lender 62 = .ok (.invokevirtual 64, 3) := by decide +kernel
theorem dX9_lender_65 : decode cX9_lender 65 = .ok (.ireturn, 1) := by decide +kernel
theorem dX9_lender_66 : decode cX9_lender 66 = .ok (.aload 5, 2) := by decide +kernel
theorem dX9_lender_68 : decode cX9_lender 68 = .ok (.getfield 177, 3) := by decide +kernel
theorem dX9_lender_71 : decode cX9_lender 71 = .ok (.bipush 10, 2) := by decide +kernel
theorem dX9_lender_73 : decode cX9_lender 73 = .ok (.if_icmp .lt 9, 3) := by decide +kernel
theorem dX9_lender_76 : decode cX9_lender 76 = .ok (.aload_n 0, 1) := by decide +kernel
theorem dX9_lender_77 : decode cX9_lender 77 = .ok (.iconst 4, 1) := by decide +kernel
theorem dX9_lender_78 : decode cX9_lender 78 = .ok (.invokevirtual 64, 3) := by decide +kernel
theorem dX9_lender_81 : decode cX9_lender 81 = .ok (.ireturn, 1) := by decide +kernel
theorem dX9_lender_82 : decode cX9_lender 82 = .ok (.iconst (-1), 1) := by decide +kernel
theorem dX9_lender_83 : decode cX9_lender 83 = .ok (.istore 7, 2) := by decide +kernel
theorem dX9_lender_85 : decode cX9_lender 85 = .ok (.iconst 0, 1) := by decide +kernel
theorem dX9_lender_86 : decode cX9_lender 86 = .ok (.istore 8, 2) := by decide +kernel
theorem dX9_lender_88 : decode cX9_lender 88 = .ok (.iconst 0, 1) := by decide +kernel
theorem dX9_lender_89 : decode cX9_lender 89 = .ok (.istore 9, 2) := by decide +kernel
theorem dX9_lender_91 : decode cX9_lender 91 = .ok (.iload 9, 2) := by decide +kernel
theorem dX9_lender_93 : decode cX9_lender 93 = .ok (.aload 5, 2) := by decide +kernel
theorem dX9_lender_95 : decode cX9_lender 95 = .ok (.getfield 108, 3) := by decide +kernel
theorem dX9_lender_98 : decode cX9_lender 98 = .ok (.if_icmp .ge 98, 3) := by decide +kernel
theorem dX9_lender_101 : decode cX9_lender 101 = .ok (.iload 9, 2) := by decide +kernel
theorem dX9_lender_103 : decode cX9_lender 103 = .ok (.iload_n 1, 1) := by decide +kernel
theorem dX9_lender_104 : decode cX9_lender 104 = .ok (.if_icmp .eq 86, 3) := by decide +kernel
theorem dX9_lender_107 : decode cX9_lender 107 = .ok (.aload 5, 2) := by decide +kernel
theorem dX9_lender_109 : decode cX9_lender 109 = .ok (.iload 9, 2) := by decide +kernel
theorem dX9_lender_111 : decode cX9_lender 111 = .ok (.iload_n 1, 1) := by decide +kernel
theorem dX9_lender_112 : decode cX9_lender 112 = .ok (.iload_n 2, 1) := by decide +kernel
theorem dX9_lender_113 : decode cX9_lender 113 = .ok (.iload_n 3, 1) := by decide +kernel
theorem dX9_lender_114 : decode cX9_lender 114 = .ok (.invokevirtual 173, 3) := by decide +kernel
theorem dX9_lender_117 : decode cX9_lender 117 = .ok (.ifCond .eq 73, 3) := by decide +kernel
theorem dX9_lender_120 : decode cX9_lender 120 = .ok (.aload_n 0, 1) := by decide +kernel
theorem dX9_lender_121 : decode cX9_lender 121 = .ok (.getfield 22, 3) := by decide +kernel
theorem dX9_lender_124 : decode cX9_lender 124 = .ok (.aload 5, 2) := by decide +kernel
theorem dX9_lender_126 : decode cX9_lender 126 = .ok (.invokevirtual 241, 3) := by decide +kernel
theorem dX9_lender_129 : decode cX9_lender 129 = .ok (.aload_n 0, 1) := by decide +kernel
theorem dX9_lender_130 : decode cX9_lender 130 = .ok (.getfield 22, 3) := by decide +kernel
theorem dX9_lender_133 : decode cX9_lender 133 = .ok (.iload 9, 2) := by decide +kernel
theorem dX9_lender_135 : decode cX9_lender 135 = .ok (.iload_n 1, 1) := by decide +kernel
theorem dX9_lender_136 : decode cX9_lender 136 = .ok (.iload_n 2, 1) := by decide +kernel
theorem dX9_lender_137 : decode cX9_lender 137 = .ok (.iload_n 3, 1) := by decide +kernel
theorem dX9_lender_138 : decode cX9_lender 138 = .ok (.iload 4, 2) := by decide +kernel
theorem dX9_lender_140 : decode cX9_lender 140 = .ok (.invokevirtual 180, 3) := by decide +kernel
theorem dX9_lender_143 : decode cX9_lender 143 = .ok (.aload_n 0, 1) := by decide +kernel
theorem dX9_lender_144 : decode cX9_lender 144 = .ok (.getfield 22, 3) := by decide +kernel
theorem dX9_lender_147 : decode cX9_lender 147 = .ok (.bipush 60, 2) := by decide +kernel
theorem dX9_lender_149 : decode cX9_lender 149 = .ok (.aload_n 0, 1) := by decide +kernel
theorem dX9_lender_150 : decode cX9_lender 150 = .ok (.getfield 10, 3) := by decide +kernel
theorem dX9_lender_153 : decode cX9_lender 153 = .ok (.getfield 153, 3) := by decide +kernel
theorem dX9_lender_156 : decode cX9_lender 156 = .ok (.iconst 1, 1) := by decide +kernel
theorem dX9_lender_157 : decode cX9_lender 157 = .ok (.aaload, 1) := by decide +kernel
theorem dX9_lender_158 : decode cX9_lender 158 = .ok (.invokevirtual 234, 3) := by decide +kernel
theorem dX9_lender_161 : decode cX9_lender 161 = .ok (.aload_n 0, 1) := by decide +kernel
theorem dX9_lender_162 : decode cX9_lender 162 = .ok (.getfield 22, 3) := by decide +kernel
theorem dX9_lender_165 : decode cX9_lender 165 = .ok (.invokevirtual 278, 3) := by decide +kernel
theorem dX9_lender_168 : decode cX9_lender 168 = .ok (.istore 10, 2) := by decide +kernel
theorem dX9_lender_170 : decode cX9_lender 170 = .ok (.iload 7, 2) := by decide +kernel
theorem dX9_lender_172 : decode cX9_lender 172 = .ok (.ifCond .lt 10, 3) := by decide +kernel
theorem dX9_lender_175 : decode cX9_lender 175 = .ok (.iload 10, 2) := by decide +kernel
theorem dX9_lender_177 : decode cX9_lender 177 = .ok (.iload 8, 2) := by decide +kernel
theorem dX9_lender_179 : decode cX9_lender 179 = .ok (.if_icmp .ge 11, 3) := by decide +kernel
theorem dX9_lender_182 : decode cX9_lender 182 = .ok (.iload 9, 2) := by decide +kernel
theorem dX9_lender_184 : decode cX9_lender 184 = .ok (.istore 7, 2) := by decide +kernel
theorem dX9_lender_186 : decode cX9_lender 186 = .ok (.iload 10, 2) := by decide +kernel
theorem dX9_lender_188 : decode cX9_lender 188 = .ok (.istore 8, 2) := by decide +kernel
theorem dX9_lender_190 : decode cX9_lender 190 = .ok (.iinc 9 1, 3) := by decide +kernel
theorem dX9_lender_193 : decode cX9_lender 193 = .ok (.goto (-102), 3) := by decide +kernel
theorem dX9_lender_196 : decode cX9_lender 196 = .ok (.iload 7, 2) := by decide +kernel
theorem dX9_lender_198 : decode cX9_lender 198 = .ok (.ifCond .ge 11, 3) := by decide +kernel
theorem dX9_lender_201 : decode cX9_lender 201 = .ok (.aload_n 0, 1) := by decide +kernel
theorem dX9_lender_202 : decode cX9_lender 202 = .ok (.iconst 2, 1) := by decide +kernel
theorem dX9_lender_203 : decode cX9_lender 203 = .ok (.invokevirtual 64, 3) := by decide +kernel
theorem dX9_lender_206 : decode cX9_lender 206 = .ok (.goto 5, 3) := by decide +kernel
theorem dX9_lender_209 : decode cX9_lender 209 = .ok (.iload 7, 2) := by decide +kernel
theorem dX9_lender_211 : decode cX9_lender 211 = .ok (.ireturn, 1) := by decide +kernel
theorem dX9_odds_0 : decode cX9_odds 0 = .ok (.aload_n 0, 1) := by decide +kernel
theorem dX9_odds_1 : decode cX9_odds 1 = .ok (.iload_n 1, 1) := by decide +kernel
theorem dX9_odds_2 : decode cX9_odds 2 = .ok (.invokevirtual 215, 3) := by decide +kernel
theorem dX9_odds_5 : decode cX9_odds 5 = .ok (.ifCond .eq 19, 3) := by decide +kernel
theorem dX9_odds_8 : decode cX9_odds 8 = .ok (.iload_n 2, 1) := by decide +kernel
theorem dX9_odds_9 : decode cX9_odds 9 = .ok (.invokestatic 245, 3) := by decide +kernel
theorem dX9_odds_12 : decode cX9_odds 12 = .ok (.ifCond .eq 12, 3) := by decide +kernel
theorem dX9_odds_15 : decode cX9_odds 15 = .ok (.iload_n 3, 1) := by decide +kernel
theorem dX9_odds_16 : decode cX9_odds 16 = .ok (.iconst 0, 1) := by decide +kernel
theorem dX9_odds_17 : decode cX9_odds 17 = .ok (.iconst 1, 1) := by decide +kernel
theorem dX9_odds_18 : decode cX9_odds 18 = .ok (.invokestatic 100, 3) := by decide +kernel
theorem dX9_odds_21 : decode cX9_odds 21 = .ok (.ifCond .ne 9, 3) := by decide +kernel
theorem dX9_odds_24 : decode cX9_odds 24 = .ok (.aload_n 0, 1) := by decide +kernel
theorem dX9_odds_25 : decode cX9_odds 25 = .ok (.iconst 1, 1) := by decide +kernel
theorem dX9_odds_26 : decode cX9_odds 26 = .ok (.invokevirtual 64, 3) := by decide +kernel
theorem dX9_odds_29 : decode cX9_odds 29 = .ok (.ireturn, 1) := by decide +kernel
theorem dX9_odds_30 : decode cX9_odds 30 = .ok (.aload_n 0, 1) := by decide +kernel
theorem dX9_odds_31 : decode cX9_odds 31 = .ok (.iload_n 1, 1) := by decide +kernel
theorem dX9_odds_32 : decode cX9_odds 32 = .ok (.iload_n 2, 1) := by decide +kernel
theorem dX9_odds_33 : decode cX9_odds 33 = .ok (.invokevirtual 255, 3) := by decide +kernel
theorem dX9_odds_36 : decode cX9_odds 36 = .ok (.invokestatic 282, 3) := by decide +kernel
theorem dX9_odds_39 : decode cX9_odds 39 = .ok (.istore 4, 2) := by decide +kernel
theorem dX9_odds_41 : decode cX9_odds 41 = .ok (.iload 4, 2) := by decide +kernel
theorem dX9_odds_43 : decode cX9_odds 43 = .ok (.bipush 10, 2) := by decide +kernel
theorem dX9_odds_45 : decode cX9_odds 45 = .ok (.invokestatic 287, 3) := by decide +kernel
theorem dX9_odds_48 : decode cX9_odds 48 = .ok (.istore 5, 2) := by decide +kernel
theorem dX9_odds_50 : decode cX9_odds 50 = .ok (.iload_n 3, 1) := by decide +kernel
theorem dX9_odds_51 : decode cX9_odds 51 = .ok (.ifCond .ne 11, 3) := by decide +kernel
theorem dX9_odds_54 : decode cX9_odds 54 = .ok (.iload 4, 2) := by decide +kernel
theorem dX9_odds_56 : decode cX9_odds 56 = .ok (.iload 5, 2) := by decide +kernel
theorem dX9_odds_58 : decode cX9_odds 58 = .ok (.idiv, 1) := by decide +kernel
theorem dX9_odds_59 : decode cX9_odds 59 = .ok (.goto 8, 3) := by decide +kernel
theorem dX9_odds_62 : decode cX9_odds 62 = .ok (.bipush 10, 2) := by decide +kernel
theorem dX9_odds_64 : decode cX9_odds 64 = .ok (.iload 5, 2) := by decide +kernel
theorem dX9_odds_66 : decode cX9_odds 66 = .ok (.idiv, 1) := by decide +kernel
theorem dX9_odds_67 : decode cX9_odds 67 = .ok (.ireturn, 1) := by decide +kernel
theorem dX9_seed_0 : decode cX9_seed 0 = .ok (.aload_n 0, 1) := by decide +kernel
theorem dX9_seed_1 : decode cX9_seed 1 = .ok (.getfield 10, 3) := by decide +kernel
theorem dX9_seed_4 : decode cX9_seed 4 = .ok (.getfield 290, 3) := by decide +kernel
theorem dX9_seed_7 : decode cX9_seed 7 = .ok (.istore_n 2, 1) := by decide +kernel
theorem dX9_seed_8 : decode cX9_seed 8 = .ok (.aload_n 0, 1) := by decide +kernel
theorem dX9_seed_9 : decode cX9_seed 9 = .ok (.getfield 10, 3) := by decide +kernel
theorem dX9_seed_12 : decode cX9_seed 12 = .ok (.iload_n 1, 1) := by decide +kernel
theorem dX9_seed_13 : decode cX9_seed 13 = .ok (.putfield 290, 3) := by decide +kernel
theorem dX9_seed_16 : decode cX9_seed 16 = .ok (.iload_n 2, 1) := by decide +kernel
theorem dX9_seed_17 : decode cX9_seed 17 = .ok (.ireturn, 1) := by decide +kernel
theorem dX9_voice_0 : decode cX9_voice 0 = .ok (.aload_n 0, 1) := by decide +kernel
theorem dX9_voice_1 : decode cX9_voice 1 = .ok (.getfield 10, 3) := by decide +kernel
theorem dX9_voice_4 : decode cX9_voice 4 = .ok (.getfield 57, 3) := by decide +kernel
theorem dX9_voice_7 : decode cX9_voice 7 = .ok (.iload_n 1, 1) := by decide +kernel
theorem dX9_voice_8 : decode cX9_voice 8 = .ok (.invokevirtual 82, 3) := by decide +kernel
theorem dX9_voice_11 : decode cX9_voice 11 = .ok (.ifCond .eq 12, 3) := by decide +kernel
theorem dX9_voice_14 : decode cX9_voice 14 = .ok (.iload_n 2, 1) := by decide +kernel
theorem dX9_voice_15 : decode cX9_voice 15 = .ok (.iconst 0, 1) := by decide +kernel
theorem dX9_voice_16 : decode cX9_voice 16 = .ok (.iconst 3, 1) := by decide +kernel
theorem dX9_voice_17 : decode cX9_voice 17 = .ok (.invokestatic 100, 3) := by decide +kernel
theorem dX9_voice_20 : decode cX9_voice 20 = .ok (.ifCond .ne 9, 3) := by decide +kernel
theorem dX9_voice_23 : decode cX9_voice 23 = .ok (.aload_n 0, 1) := by decide +kernel
theorem dX9_voice_24 : decode cX9_voice 24 = .ok (.iconst 1, 1) := by decide +kernel
theorem dX9_voice_25 : decode cX9_voice 25 = .ok (.invokevirtual 64, 3) := by decide +kernel
theorem dX9_voice_28 : decode cX9_voice 28 = .ok (.ireturn, 1) := by decide +kernel
theorem dX9_voice_29 : decode cX9_voice 29 = .ok (.aload_n 0, 1) := by decide +kernel
theorem dX9_voice_30 : decode cX9_voice 30 = .ok (.getfield 36, 3) := by decide +kernel
theorem dX9_voice_33 : decode cX9_voice 33 = .ok (.aload_n 0, 1) := by decide +kernel
theorem dX9_voice_34 : decode cX9_voice 34 = .ok (.getfield 10, 3) := by decide +kernel
theorem dX9_voice_37 : decode cX9_voice 37 = .ok (.getfield 57, 3) := by decide +kernel
theorem dX9_voice_40 : decode cX9_voice 40 = .ok (.getfield 72, 3) := by decide +kernel
theorem dX9_voice_43 : decode cX9_voice 43 = .ok (.iload_n 1, 1) := by decide +kernel
theorem dX9_voice_44 : decode cX9_voice 44 = .ok (.aaload, 1) := by decide +kernel
theorem dX9_voice_45 : decode cX9_voice 45 = .ok (.iload_n 1, 1) := by decide +kernel
theorem dX9_voice_46 : decode cX9_voice 46 = .ok (.iload_n 2, 1) := by decide +kernel
theorem dX9_voice_47 : decode cX9_voice 47 = .ok (.iload_n 3, 1) := by decide +kernel
theorem dX9_voice_48 : decode cX9_voice 48 = .ok (.invokevirtual 293, 3) := by decide +kernel
theorem dX9_voice_51 : decode cX9_voice 51 = .ok (.ireturn, 1) := by decide +kernel
theorem dX9_trace_0 : decode cX9_trace 0 = .ok (.iload_n 1, 1) := by decide +kernel
theorem dX9_trace_1 : decode cX9_trace 1 = .ok (.iconst 0, 1) := by decide +kernel
theorem dX9_trace_2 : decode cX9_trace 2 = .ok (.aload_n 0, 1) := by decide +kernel
theorem dX9_trace_3 : decode cX9_trace 3 = .ok (.getfield 36, 3) := by decide +kernel
theorem dX9_trace_6 : decode cX9_trace 6 = .ok (.getfield 297, 3) := by decide +kernel
theorem dX9_trace_9 : decode cX9_trace 9 = .ok (.iconst 1, 1) := by decide +kernel
theorem dX9_trace_10 : decode cX9_trace 10 = .ok (.isub, 1) := by decide +kernel
theorem dX9_trace_11 : decode cX9_trace 11 = .ok (.invokestatic 100, 3) := by decide +kernel
theorem dX9_trace_14 : decode cX9_trace 14 = .ok (.ifCond .ne 9, 3) := by decide +kernel
theorem dX9_trace_17 : decode cX9_trace 17 = .ok (.aload_n 0, 1) := by decide +kernel
theorem dX9_trace_18 : decode cX9_trace 18 = .ok (.iconst 2, 1) := by decide +kernel
theorem dX9_trace_19 : decode cX9_trace 19 = .ok (.invokevirtual 64, 3) := by decide +kernel
theorem dX9_trace_22 : decode cX9_trace 22 = .ok (.ireturn, 1) := by decide +kernel
theorem dX9_trace_23 : decode cX9_trace 23 = .ok (.aload_n 0, 1) := by decide +kernel
theorem dX9_trace_24 : decode cX9_trace 24 = .ok (.getfield 36, 3) := by decide +kernel
theorem dX9_trace_27 : decode cX9_trace 27 = .ok (.getfield 300, 3) := by decide +kernel
theorem dX9_trace_30 : decode cX9_trace 30 = .ok (.iload_n 1, 1) := by decide +kernel
theorem dX9_trace_31 : decode cX9_trace 31 = .ok (.iaload, 1) := by decide +kernel
theorem dX9_trace_32 : decode cX9_trace 32 = .ok (.ireturn, 1) := by decide +kernel
theorem dX9_sheet_0 : decode cX9_sheet 0 = .ok (.iload_n 2, 1) := by decide +kernel
theorem dX9_sheet_1 : decode cX9_sheet 1 = .ok (.ifCond .eq 21, 3) := by decide +kernel
theorem dX9_sheet_4 : decode cX9_sheet 4 = .ok (.iload_n 2, 1) := by decide +kernel
theorem dX9_sheet_5 : decode cX9_sheet 5 = .ok (.bipush 8, 2) := by decide +kernel
theorem dX9_sheet_7 : decode cX9_sheet 7 = .ok (.if_icmp .eq 15, 3) := by decide +kernel
theorem dX9_sheet_10 : decode cX9_sheet 10 = .ok (.iload_n 2, 1) := by decide +kernel
theorem dX9_sheet_11 : decode cX9_sheet 11 = .ok (.bipush 16, 2) := by decide +kernel
theorem dX9_sheet_13 : decode cX9_sheet 13 = .ok (.if_icmp .eq 9, 3) := by decide +kernel
theorem dX9_sheet_16 : decode cX9_sheet 16 = .ok (.iload_n 2, 1) := by decide +kernel
theorem dX9_sheet_17 : decode cX9_sheet 17 = .ok (.bipush 32, 2) := by decide +kernel
theorem dX9_sheet_19 : decode cX9_sheet 19 = .ok (.if_icmp .ne 7, 3) := by decide +kernel
theorem dX9_sheet_22 : decode cX9_sheet 22 = .ok (.iconst 1, 1) := by decide +kernel
theorem dX9_sheet_23 : decode cX9_sheet 23 = .ok (.goto 4, 3) := by decide +kernel
theorem dX9_sheet_26 : decode cX9_sheet 26 = .ok (.iconst 0, 1) := by decide +kernel
theorem dX9_sheet_27 : decode cX9_sheet 27 = .ok (.istore 4, 2) := by decide +kernel
theorem dX9_sheet_29 : decode cX9_sheet 29 = .ok (.iload_n 1, 1) := by decide +kernel
theorem dX9_sheet_30 : decode cX9_sheet 30 = .ok (.invokestatic 258, 3) := by decide +kernel
theorem dX9_sheet_33 : decode cX9_sheet 33 = .ok (.ifCond .eq 8, 3) := by decide +kernel
theorem dX9_sheet_36 : decode cX9_sheet 36 = .ok (.iload 4, 2) := by decide +kernel
theorem dX9_sheet_38 : decode cX9_sheet 38 = .ok (.ifCond .ne 9, 3) := by decide +kernel
theorem dX9_sheet_41 : decode cX9_sheet 41 = .ok (.aload_n 0, 1) := by decide +kernel
theorem dX9_sheet_42 : decode cX9_sheet 42 = .ok (.iconst 1, 1) := by decide +kernel
theorem dX9_sheet_43 : decode cX9_sheet 43 = .ok (.invokevirtual 64, 3) := by decide +kernel
theorem dX9_sheet_46 : decode cX9_sheet 46 = .ok (.ireturn, 1) := by decide +kernel
theorem dX9_sheet_47 : decode cX9_sheet 47 = .ok (.iload_n 2, 1) := by decide +kernel
theorem dX9_sheet_48 : decode cX9_sheet 48 = .ok (.ifCond .eq 13, 3) := by decide +kernel
theorem dX9_sheet_51 : decode cX9_sheet 51 = .ok (.iload_n 3, 1) := by decide +kernel
theorem dX9_sheet_52 : decode cX9_sheet 52 = .ok (.ifCond .ge 9, 3) := by decide +kernel
theorem dX9_sheet_55 : decode cX9_sheet 55 = .ok (.aload_n 0, 1) := by decide +kernel
theorem dX9_sheet_56 : decode cX9_sheet 56 = .ok (.iconst 3, 1) := by decide +kernel
theorem dX9_sheet_57 : decode cX9_sheet 57 = .ok (.invokevirtual 64, 3) := by decide +kernel
theorem dX9_sheet_60 : decode cX9_sheet 60 = .ok (.ireturn, 1) := by decide +kernel
theorem dX9_sheet_61 : decode cX9_sheet 61 = .ok (.iload_n 2, 1) := by decide +kernel
theorem dX9_sheet_62 : decode cX9_sheet 62 = .ok (.ifCond .eq 15, 3) := by decide +kernel
theorem dX9_sheet_65 : decode cX9_sheet 65 = .ok (.iload_n 3, 1) := by decide +kernel
theorem dX9_sheet_66 : decode cX9_sheet 66 = .ok (.bipush 40, 2) := by decide +kernel
theorem dX9_sheet_68 : decode cX9_sheet 68 = .ok (.if_icmp .le 9, 3) := by decide +kernel
theorem dX9_sheet_71 : decode cX9_sheet 71 = .ok (.aload_n 0, 1) := by decide +kernel
theorem dX9_sheet_72 : decode cX9_sheet 72 = .ok (.iconst 1, 1) := by decide +kernel
theorem dX9_sheet_73 : decode cX9_sheet 73 = .ok (.invokevirtual 64, 3) := by decide +kernel
theorem dX9_sheet_76 : decode cX9_sheet 76 = .ok (.ireturn, 1) := by decide +kernel
theorem dX9_sheet_77 : decode cX9_sheet 77 = .ok (.aload_n 0, 1) := by decide +kernel
theorem dX9_sheet_78 : decode cX9_sheet 78 = .ok (.getfield 42, 3) := by decide +kernel
theorem dX9_sheet_81 : decode cX9_sheet 81 = .ok (.iload_n 1, 1) := by decide +kernel
theorem dX9_sheet_82 : decode cX9_sheet 82 = .ok (.aaload, 1) := by decide +kernel
theorem dX9_sheet_83 : decode cX9_sheet 83 = .ok (.iload_n 2, 1) := by decide +kernel
theorem dX9_sheet_84 : decode cX9_sheet 84 = .ok (.iload_n 2, 1) := by decide +kernel
theorem dX9_sheet_85 : decode cX9_sheet 85 = .ok (.ifCond .ne 7, 3) := by decide +kernel
theorem dX9_sheet_88 : decode cX9_sheet 88 = .ok (.iconst 0, 1) := by decide +kernel
theorem dX9_sheet_89 : decode cX9_sheet 89 = .ok (.goto 4, 3) := by decide +kernel
theorem dX9_sheet_92 : decode cX9_sheet 92 = .ok (.iload_n 3, 1) := by decide +kernel
theorem dX9_sheet_93 : decode cX9_sheet 93 = .ok (.invokevirtual 303, 3) := by decide +kernel
theorem dX9_sheet_96 : decode cX9_sheet 96 = .ok (.iconst 1, 1) := by decide +kernel
theorem dX9_sheet_97 : decode cX9_sheet 97 = .ok (.ireturn, 1) := by decide +kernel
theorem dX9_put_0 : decode cX9_put 0 = .ok (.iload_n 1, 1) := by decide +kernel
theorem dX9_put_1 : decode cX9_put 1 = .ok (.invokestatic 258, 3) := by decide +kernel
theorem dX9_put_4 : decode cX9_put 4 = .ok (.ifCond .ne 9, 3) := by decide +kernel
theorem dX9_put_7 : decode cX9_put 7 = .ok (.aload_n 0, 1) := by decide +kernel
theorem dX9_put_8 : decode cX9_put 8 = .ok (.iconst 1, 1) := by decide +kernel
theorem dX9_put_9 : decode cX9_put 9 = .ok (.invokevirtual 64, 3) := by decide +kernel
theorem dX9_put_12 : decode cX9_put 12 = .ok (.ireturn, 1) := by decide +kernel
theorem dX9_put_13 : decode cX9_put 13 = .ok (.aload_n 0, 1) := by decide +kernel
theorem dX9_put_14 : decode cX9_put 14 = .ok (.getfield 42, 3) := by decide +kernel
theorem dX9_put_17 : decode cX9_put 17 = .ok (.iload_n 1, 1) := by decide +kernel
theorem dX9_put_18 : decode cX9_put 18 = .ok (.aaload, 1) := by decide +kernel
theorem dX9_put_19 : decode cX9_put 19 = .ok (.invokevirtual 261, 3) := by decide +kernel
theorem dX9_put_22 : decode cX9_put 22 = .ok (.ifCond .eq 9, 3) := by decide +kernel
theorem dX9_put_25 : decode cX9_put 25 = .ok (.aload_n 0, 1) := by decide +kernel
theorem dX9_put_26 : decode cX9_put 26 = .ok (.iconst 2, 1) := by decide +kernel
theorem dX9_put_27 : decode cX9_put 27 = .ok (.invokevirtual 64, 3) := by decide +kernel
theorem dX9_put_30 : decode cX9_put 30 = .ok (.ireturn, 1) := by decide +kernel
theorem dX9_put_31 : decode cX9_put 31 = .ok (.iload_n 2, 1) := by decide +kernel
theorem dX9_put_32 : decode cX9_put 32 = .ok (.iconst 0, 1) := by decide +kernel
theorem dX9_put_33 : decode cX9_put 33 = .ok (.aload_n 0, 1) := by decide +kernel
theorem dX9_put_34 : decode cX9_put 34 = .ok (.getfield 42, 3) := by decide +kernel
theorem dX9_put_37 : decode cX9_put 37 = .ok (.iload_n 1, 1) := by decide +kernel
theorem dX9_put_38 : decode cX9_put 38 = .ok (.aaload, 1) := by decide +kernel
theorem dX9_put_39 : decode cX9_put 39 = .ok (.getfield 265, 3) := by decide +kernel
theorem dX9_put_42 : decode cX9_put 42 = .ok (.iconst 1, 1) := by decide +kernel
theorem dX9_put_43 : decode cX9_put 43 = .ok (.isub, 1) := by decide +kernel
theorem dX9_put_44 : decode cX9_put 44 = .ok (.invokestatic 100, 3) := by decide +kernel
theorem dX9_put_47 : decode cX9_put 47 = .ok (.ifCond .ne 9, 3) := by decide +kernel
theorem dX9_put_50 : decode cX9_put 50 = .ok (.aload_n 0, 1) := by decide +kernel
theorem dX9_put_51 : decode cX9_put 51 = .ok (.iconst 1, 1) := by decide +kernel
theorem dX9_put_52 : decode cX9_put 52 = .ok (.invokevirtual 64, 3) := by decide +kernel
theorem dX9_put_55 : decode cX9_put 55 = .ok (.ireturn, 1) := by decide +kernel
theorem dX9_put_56 : decode cX9_put 56 = .ok (.aload_n 0, 1) := by decide +kernel
theorem dX9_put_57 : decode cX9_put 57 = .ok (.getfield 42, 3) := by decide +kernel
theorem dX9_put_60 : decode cX9_put 60 = .ok (.iload_n 1, 1) := by decide +kernel
theorem dX9_put_61 : decode cX9_put 61 = .ok (.aaload, 1) := by decide +kernel
theorem dX9_put_62 : decode cX9_put 62 = .ok (.iload_n 2, 1) := by decide +kernel
theorem dX9_put_63 : decode cX9_put 63 = .ok (.iload_n 3, 1) := by decide +kernel
theorem dX9_put_64 : decode cX9_put 64 = .ok (.invokevirtual 306, 3) := by decide +kernel
theorem dX9_put_67 : decode cX9_put 67 = .ok (.iconst 1, 1) := by decide +kernel
theorem dX9_put_68 : decode cX9_put 68 = .ok (.ireturn, 1) := by decide +kernel
theorem dX9_move_0 : decode cX9_move 0 = .ok (.iload_n 1, 1) := by decide +kernel
theorem dX9_move_1 : decode cX9_move 1 = .ok (.invokestatic 258, 3) := by decide +kernel
theorem dX9_move_4 : decode cX9_move 4 = .ok (.ifCond .eq 10, 3) := by decide +kernel
theorem dX9_move_7 : decode cX9_move 7 = .ok (.iload_n 3, 1) := by decide +kernel
theorem dX9_move_8 : decode cX9_move 8 = .ok (.invokestatic 258, 3) := by decide +kernel
theorem dX9_move_11 : decode cX9_move 11 = .ok (.ifCond .ne 9, 3) := by decide +kernel
theorem dX9_move_14 : decode cX9_move 14 = .ok (.aload_n 0, 1) := by decide +kernel
theorem dX9_move_15 : decode cX9_move 15 = .ok (.iconst 1, 1) := by decide +kernel
theorem dX9_move_16 : decode cX9_move 16 = .ok (.invokevirtual 64, 3) := by decide +kernel
theorem dX9_move_19 : decode cX9_move 19 = .ok (.ireturn, 1) := by decide +kernel
theorem dX9_move_20 : decode cX9_move 20 = .ok (.aload_n 0, 1) := by decide +kernel
theorem dX9_move_21 : decode cX9_move 21 = .ok (.getfield 42, 3) := by decide +kernel
theorem dX9_move_24 : decode cX9_move 24 = .ok (.iload_n 1, 1) := by decide +kernel
theorem dX9_move_25 : decode cX9_move 25 = .ok (.aaload, 1) := by decide +kernel
theorem dX9_move_26 : decode cX9_move 26 = .ok (.astore 6, 2) := by decide +kernel
theorem dX9_move_28 : decode cX9_move 28 = .ok (.aload_n 0, 1) := by decide +kernel
theorem dX9_move_29 : decode cX9_move 29 = .ok (.getfield 42, 3) := by decide +kernel
theorem dX9_move_32 : decode cX9_move 32 = .ok (.iload_n 3, 1) := by decide +kernel
theorem dX9_move_33 : decode cX9_move 33 = .ok (.aaload, 1) := by decide +kernel
theorem dX9_move_34 : decode cX9_move 34 = .ok (.astore 7, 2) := by decide +kernel
theorem dX9_move_36 : decode cX9_move 36 = .ok (.aload 6, 2) := by decide +kernel
theorem dX9_move_38 : decode cX9_move 38 = .ok (.invokevirtual 261, 3) := by decide +kernel
theorem dX9_move_41 : decode cX9_move 41 = .ok (.ifCond .ne 11, 3) := by decide +kernel
theorem dX9_move_44 : decode cX9_move 44 = .ok (.aload 7, 2) := by decide +kernel
theorem dX9_move_46 : decode cX9_move 46 = .ok (.invokevirtual 261, 3) := by decide +kernel
theorem dX9_move_49 : decode cX9_move 49 = .ok (.ifCond .eq 9, 3) := by decide +kernel
theorem dX9_move_52 : decode cX9_move 52 = .ok (.aload_n 0, 1) := by decide +kernel
theorem dX9_move_53 : decode cX9_move 53 = .ok (.iconst 2, 1) := by decide +kernel
theorem dX9_move_54 : decode cX9_move 54 = .ok (.invokevirtual 64, 3) := by decide +kernel
theorem dX9_move_57 : decode cX9_move 57 = .ok (.ireturn, 1) := by decide +kernel
theorem dX9_move_58 : decode cX9_move 58 = .ok (.aload 6, 2) := by decide +kernel
theorem dX9_move_60 : decode cX9_move 60 = .ok (.getfield 309, 3) := by decide +kernel
theorem dX9_move_63 : decode cX9_move 63 = .ok (.aload 7, 2) := by decide +kernel
theorem dX9_move_65 : decode cX9_move 65 = .ok (.getfield 309, 3) := by decide +kernel
theorem dX9_move_68 : decode cX9_move 68 = .ok (.if_icmp .eq 9, 3) := by decide +kernel
theorem dX9_move_71 : decode cX9_move 71 = .ok (.aload_n 0, 1) := by decide +kernel
theorem dX9_move_72 : decode cX9_move 72 = .ok (.iconst 5, 1) := by decide +kernel
theorem dX9_move_73 : decode cX9_move 73 = .ok (.invokevirtual 64, 3) := by decide +kernel
theorem dX9_move_76 : decode cX9_move 76 = .ok (.ireturn, 1) := by decide +kernel
theorem dX9_move_77 : decode cX9_move 77 = .ok (.aload 6, 2) := by decide +kernel
theorem dX9_move_79 : decode cX9_move 79 = .ok (.iload_n 2, 1) := by decide +kernel
theorem dX9_move_80 : decode cX9_move 80 = .ok (.iload 5, 2) := by decide +kernel
theorem dX9_move_82 : decode cX9_move 82 = .ok (.invokevirtual 312, 3) := by decide +kernel
theorem dX9_move_85 : decode cX9_move 85 = .ok (.ifCond .eq 15, 3) := by decide +kernel
theorem dX9_move_88 : decode cX9_move 88 = .ok (.aload 7, 2) := by decide +kernel
theorem dX9_move_90 : decode cX9_move 90 = .ok (.iload 4, 2) := by decide +kernel
theorem dX9_move_92 : decode cX9_move 92 = .ok (.iload 5, 2) := by decide +kernel
theorem dX9_move_94 : decode cX9_move 94 = .ok (.invokevirtual 312, 3) := by decide +kernel
theorem dX9_move_97 : decode cX9_move 97 = .ok (.ifCond .ne 9, 3) := by decide +kernel
theorem dX9_move_100 : decode cX9_move 100 = .ok (.aload_n 0, 1) := by decide +kernel
theorem dX9_move_101 : decode cX9_move 101 = .ok (.iconst 1, 1) := by decide +kernel
theorem dX9_move_102 : decode cX9_move 102 = .ok (.invokevirtual 64, 3) := by decide +kernel
theorem dX9_move_105 : decode cX9_move 105 = .ok (.ireturn, 1) := by decide +kernel
theorem dX9_move_106 : decode cX9_move 106 = .ok (.aload 6, 2) := by decide +kernel
theorem dX9_move_108 : decode cX9_move 108 = .ok (.getfield 315, 3) := by decide +kernel
theorem dX9_move_111 : decode cX9_move 111 = .ok (.iload_n 2, 1) := by decide +kernel
theorem dX9_move_112 : decode cX9_move 112 = .ok (.aload 7, 2) := by decide +kernel
theorem dX9_move_114 : decode cX9_move 114 = .ok (.getfield 315, 3) := by decide +kernel
theorem dX9_move_117 : decode cX9_move 117 = .ok (.iload 4, 2) := by decide +kernel
theorem dX9_move_119 : decode cX9_move 119 = .ok (.iload 5, 2) := by decide +kernel
theorem dX9_move_121 : decode cX9_move 121 = .ok (.invokestatic 318, 3) := by decide +kernel
theorem dX9_move_124 : decode cX9_move 124 = .ok (.iload 5, 2) := by decide +kernel
theorem dX9_move_126 : decode cX9_move 126 = .ok (.ireturn, 1) := by decide +kernel
theorem dX9_hedges_0 : decode cX9_hedges 0 = .ok (.iload_n 1, 1) := by decide +kernel
theorem dX9_hedges_1 : decode cX9_hedges 1 = .ok (.invokestatic 258, 3) := by decide +kernel
theorem dX9_hedges_4 : decode cX9_hedges 4 = .ok (.ifCond .ne 9, 3) := by decide +kernel
theorem dX9_hedges_7 : decode cX9_hedges 7 = .ok (.aload_n 0, 1) := by decide +kernel
theorem dX9_hedges_8 : decode cX9_hedges 8 = .ok (.iconst 1, 1) := by decide +kernel
theorem dX9_hedges_9 : decode cX9_hedges 9 = .ok (.invokevirtual 64, 3) := by decide +kernel
theorem dX9_hedges_12 : decode cX9_hedges 12 = .ok (.ireturn, 1) := by decide +kernel
theorem dX9_hedges_13 : decode cX9_hedges 13 = .ok (.aload_n 0, 1) := by decide +kernel
theorem dX9_hedges_14 : decode cX9_hedges 14 = .ok (.getfield 42, 3) := by decide +kernel
theorem dX9_hedges_17 : decode cX9_hedges 17 = .ok (.iload_n 1, 1) := by decide +kernel
theorem dX9_hedges_18 : decode cX9_hedges 18 = .ok (.aaload, 1) := by decide +kernel
theorem dX9_hedges_19 : decode cX9_hedges 19 = .ok (.astore_n 2, 1) := by decide +kernel
theorem dX9_hedges_20 : decode cX9_hedges 20 = .ok (.aload_n 2, 1) := by decide +kernel
theorem dX9_hedges_21 : decode cX9_hedges 21 = .ok (.invokevirtual 261, 3) := by decide +kernel
theorem dX9_hedges_24 : decode cX9_hedges 24 = .ok (.ifCond .eq 9, 3) := by decide +kernel
theorem dX9_hedges_27 : decode cX9_hedges 27 = .ok (.aload_n 0, 1) := by decide +kernel
theorem dX9_hedges_28 : decode cX9_hedges 28 = .ok (.iconst 2, 1) := by decide +kernel
theorem dX9_hedges_29 : decode cX9_hedges 29 = .ok (.invokevirtual 64, 3) := by decide +kernel
theorem dX9_hedges_32 : decode cX9_hedges 32 = .ok (.ireturn, 1) := by decide +kernel
theorem dX9_hedges_33 : decode cX9_hedges 33 = .ok (.aload_n 2, 1) := by decide +kernel
theorem dX9_hedges_34 : decode cX9_hedges 34 = .ok (.getfield 265, 3) := by decide +kernel
theorem dX9_hedges_37 : decode cX9_hedges 37 = .ok (.aload_n 0, 1) := by decide +kernel
theorem dX9_hedges_38 : decode cX9_hedges 38 = .ok (.getfield 10, 3) := by decide +kernel
theorem dX9_hedges_41 : decode cX9_hedges 41 = .ok (.getfield 57, 3) := by decide +kernel
theorem dX9_hedges_44 : decode cX9_hedges 44 = .ok (.getfield 68, 3) := by decide +kernel
theorem dX9_hedges_47 : decode cX9_hedges 47 = .ok (.invokestatic 273, 3) := by decide +kernel
theorem dX9_hedges_50 : decode cX9_hedges 50 = .ok (.istore_n 3, 1) := by decide +kernel
theorem dX9_hedges_51 : decode cX9_hedges 51 = .ok (.iconst 0, 1) := by decide +kernel
theorem dX9_hedges_52 : decode cX9_hedges 52 = .ok (.istore 4, 2) := by decide +kernel
theorem dX9_hedges_54 : decode cX9_hedges 54 = .ok (.iload 4, 2) := by decide +kernel
theorem dX9_hedges_56 : decode cX9_hedges 56 = .ok (.iload_n 3, 1) := by decide +kernel
theorem dX9_hedges_57 : decode cX9_hedges 57 = .ok (.if_icmp .ge 51, 3) := by decide +kernel
theorem dX9_hedges_60 : decode cX9_hedges 60 = .ok (.aload_n 2, 1) := by decide +kernel
theorem dX9_hedges_61 : decode cX9_hedges 61 = .ok (.getfield 315, 3) := by decide +kernel
theorem dX9_hedges_64 : decode cX9_hedges 64 = .ok (.iload 4, 2) := by decide +kernel
theorem dX9_hedges_66 : decode cX9_hedges 66 = .ok (.iaload, 1) := by decide +kernel
theorem dX9_hedges_67 : decode cX9_hedges 67 = .ok (.iconst 0, 1) := by decide +kernel
theorem dX9_hedges_68 : decode cX9_hedges 68 = .ok (.bipush 9, 2) := by decide +kernel
theorem dX9_hedges_70 : decode cX9_hedges 70 = .ok (.invokestatic 100, 3) := by decide +kernel
theorem dX9_hedges_73 : decode cX9_hedges 73 = .ok (.ifCond .ne 6, 3) := by decide +kernel
theorem dX9_hedges_76 : decode cX9_hedges 76 = .ok (.iload 4, 2) := by decide +kernel
theorem dX9_hedges_78 : decode cX9_hedges 78 = .ok (.ireturn, 1) := by decide +kernel
theorem dX9_hedges_79 : decode cX9_hedges 79 = .ok (.aload_n 0, 1) := by decide +kernel
theorem dX9_hedges_80 : decode cX9_hedges 80 = .ok (.getfield 10, 3) := by decide +kernel
theorem dX9_hedges_83 : decode cX9_hedges 83 = .ok (.getfield 57, 3) := by decide +kernel
theorem dX9_hedges_86 : decode cX9_hedges 86 = .ok (.getfield 72, 3) := by decide +kernel
theorem dX9_hedges_89 : decode cX9_hedges 89 = .ok (.iload 4, 2) := by decide +kernel
theorem dX9_hedges_91 : decode cX9_hedges 91 = .ok (.aaload, 1) := by decide +kernel
theorem dX9_hedges_92 : decode cX9_hedges 92 = .ok (.aload_n 2, 1) := by decide +kernel
theorem dX9_hedges_93 : decode cX9_hedges 93 = .ok (.getfield 315, 3) := by decide +kernel
theorem dX9_hedges_96 : decode cX9_hedges 96 = .ok (.iload 4, 2) := by decide +kernel
theorem dX9_hedges_98 : decode cX9_hedges 98 = .ok (.iaload, 1) := by decide +kernel
theorem dX9_hedges_99 : decode cX9_hedges 99 = .ok (.putfield 91, 3) := by decide +kernel
theorem dX9_hedges_102 : decode cX9_hedges 102 = .ok (.iinc 4 1, 3) := by decide +kernel
theorem dX9_hedges_105 : decode cX9_hedges 105 = .ok (.goto (-51), 3) := by decide +kernel
theorem dX9_hedges_108 : decode cX9_hedges 108 = .ok (.iload_n 3, 1) := by decide +kernel
theorem dX9_hedges_109 : decode cX9_hedges 109 = .ok (.ireturn, 1) := by decide +kernel
theorem dX9_judge_0 : decode cX9_judge 0 = .ok (.iload_n 1, 1) := by decide +kernel
theorem dX9_judge_1 : decode cX9_judge 1 = .ok (.invokestatic 258, 3) := by decide +kernel
theorem dX9_judge_4 : decode cX9_judge 4 = .ok (.ifCond .ne 9, 3) := by decide +kernel
theorem dX9_judge_7 : decode cX9_judge 7 = .ok (.aload_n 0, 1) := by decide +kernel
theorem dX9_judge_8 : decode cX9_judge 8 = .ok (.iconst 1, 1) := by decide +kernel
theorem dX9_judge_9 : decode cX9_judge 9 = .ok (.invokevirtual 64, 3) := by decide +kernel
theorem dX9_judge_12 : decode cX9_judge 12 = .ok (.ireturn, 1) := by decide +kernel
theorem dX9_judge_13 : decode cX9_judge 13 = .ok (.aload_n 0, 1) := by decide +kernel
theorem dX9_judge_14 : decode cX9_judge 14 = .ok (.getfield 42, 3) := by decide +kernel
theorem dX9_judge_17 : decode cX9_judge 17 = .ok (.iload_n 1, 1) := by decide +kernel
theorem dX9_judge_18 : decode cX9_judge 18 = .ok (.aaload, 1) := by decide +kernel
theorem dX9_judge_19 : decode cX9_judge 19 = .ok (.astore_n 2, 1) := by decide +kernel
theorem dX9_judge_20 : decode cX9_judge 20 = .ok (.aload_n 2, 1) := by decide +kernel
theorem dX9_judge_21 : decode cX9_judge 21 = .ok (.invokevirtual 261, 3) := by decide +kernel
theorem dX9_judge_24 : decode cX9_judge 24 = .ok (.ifCond .eq 9, 3) := by decide +kernel
theorem dX9_judge_27 : decode cX9_judge 27 = .ok (.aload_n 0, 1) := by decide +kernel
theorem dX9_judge_28 : decode cX9_judge 28 = .ok (.iconst 2, 1) := by decide +kernel
theorem dX9_judge_29 : decode cX9_judge 29 = .ok (.invokevirtual 64, 3) := by decide +kernel
theorem dX9_judge_32 : decode cX9_judge 32 = .ok (.ireturn, 1) := by decide +kernel
theorem dX9_judge_33 : decode cX9_judge 33 = .ok (.aload_n 2, 1) := by decide +kernel
theorem dX9_judge_34 : decode cX9_judge 34 = .ok (.getfield 265, 3) := by decide +kernel
theorem dX9_judge_37 : decode cX9_judge 37 = .ok (.aload_n 0, 1) := by decide +kernel
theorem dX9_judge_38 : decode cX9_judge 38 = .ok (.getfield 10, 3) := by decide +kernel
theorem dX9_judge_41 : decode cX9_judge 41 = .ok (.getfield 57, 3) := by decide +kernel
theorem dX9_judge_44 : decode cX9_judge 44 = .ok (.getfield 177, 3) := by decide +kernel
theorem dX9_judge_47 : decode cX9_judge 47 = .ok (.invokestatic 273, 3) := by decide +kernel
theorem dX9_judge_50 : decode cX9_judge 50 = .ok (.istore_n 3, 1) := by decide +kernel
theorem dX9_judge_51 : decode cX9_judge 51 = .ok (.iconst 0, 1) := by decide +kernel
theorem dX9_judge_52 : decode cX9_judge 52 = .ok (.istore 4, 2) := by decide +kernel
theorem dX9_judge_54 : decode cX9_judge 54 = .ok (.iload 4, 2) := by decide +kernel
theorem dX9_judge_56 : decode cX9_judge 56 = .ok (.iload_n 3, 1) := by decide +kernel
theorem dX9_judge_57 : decode cX9_judge 57 = .ok (.if_icmp .ge 38, 3) := by decide +kernel
theorem dX9_judge_60 : decode cX9_judge 60 = .ok (.aload_n 2, 1) := by decide +kernel
theorem dX9_judge_61 : decode cX9_judge 61 = .ok (.getfield 315, 3) := by decide +kernel
theorem dX9_judge_64 : decode cX9_judge 64 = .ok (.iload 4, 2) := by decide +kernel
theorem dX9_judge_66 : decode cX9_judge 66 = .ok (.iaload, 1) := by decide +kernel
theorem dX9_judge_67 : decode cX9_judge 67 = .ok (.aload_n 0, 1) := by decide +kernel
theorem dX9_judge_68 : decode cX9_judge 68 = .ok (.getfield 10, 3) := by decide +kernel
theorem dX9_judge_71 : decode cX9_judge 71 = .ok (.getfield 57, 3) := by decide +kernel
theorem dX9_judge_74 : decode cX9_judge 74 = .ok (.getfield 187, 3) := by decide +kernel
theorem dX9_judge_77 : decode cX9_judge 77 = .ok (.iload 4, 2) := by decide +kernel
theorem dX9_judge_79 : decode cX9_judge 79 = .ok (.aaload, 1) := by decide +kernel
theorem dX9_judge_80 : decode cX9_judge 80 = .ok (.getfield 202, 3) := by decide +kernel
theorem dX9_judge_83 : decode cX9_judge 83 = .ok (.if_icmp .eq 6, 3) := by decide +kernel
theorem dX9_judge_86 : decode cX9_judge 86 = .ok (.iload 4, 2) := by decide +kernel
theorem dX9_judge_88 : decode cX9_judge 88 = .ok (.ireturn, 1) := by decide +kernel
theorem dX9_judge_89 : decode cX9_judge 89 = .ok (.iinc 4 1, 3) := by decide +kernel
theorem dX9_judge_92 : decode cX9_judge 92 = .ok (.goto (-38), 3) := by decide +kernel
theorem dX9_judge_95 : decode cX9_judge 95 = .ok (.aload_n 2, 1) := by decide +kernel
theorem dX9_judge_96 : decode cX9_judge 96 = .ok (.getfield 265, 3) := by decide +kernel
theorem dX9_judge_99 : decode cX9_judge 99 = .ok (.aload_n 0, 1) := by decide +kernel
theorem dX9_judge_100 : decode cX9_judge 100 = .ok (.getfield 10, 3) := by decide +kernel
theorem dX9_judge_103 : decode cX9_judge 103 = .ok (.getfield 57, 3) := by decide +kernel
theorem dX9_judge_106 : decode cX9_judge 106 = .ok (.getfield 177, 3) := by decide +kernel
theorem dX9_judge_109 : decode cX9_judge 109 = .ok (.if_icmp .ne 7, 3) := by decide +kernel
theorem dX9_judge_112 : decode cX9_judge 112 = .ok (.iconst (-1), 1) := by decide +kernel
theorem dX9_judge_113 : decode cX9_judge 113 = .ok (.goto 4, 3) := by decide +kernel
theorem dX9_judge_116 : decode cX9_judge 116 = .ok (.iload_n 3, 1) := by decide +kernel
theorem dX9_judge_117 : decode cX9_judge 117 = .ok (.ireturn, 1) := by decide +kernel
theorem dX9_image_0 : decode cX9_image 0 = .ok (.aload_n 0, 1) := by decide +kernel
theorem dX9_image_1 : decode cX9_image 1 = .ok (.getfield 16, 3) := by decide +kernel
theorem dX9_image_4 : decode cX9_image 4 = .ok (.aload_n 0, 1) := by decide +kernel
theorem dX9_image_5 : decode cX9_image 5 = .ok (.getfield 10, 3) := by decide +kernel
theorem dX9_image_8 : decode cX9_image 8 = .ok (.invokevirtual 324, 3) := by decide +kernel
theorem dX9_image_11 : decode cX9_image 11 = .ok (.aload_n 0, 1) := by decide +kernel
theorem dX9_image_12 : decode cX9_image 12 = .ok (.dup, 1) := by decide +kernel
theorem dX9_image_13 : decode cX9_image 13 = .ok (.getfield 327, 3) := by decide +kernel
theorem dX9_image_16 : decode cX9_image 16 = .ok (.iconst 1, 1) := by decide +kernel
theorem dX9_image_17 : decode cX9_image 17 = .ok (.iadd, 1) := by decide +kernel
theorem dX9_image_18 : decode cX9_image 18 = .ok (.putfield 327, 3) := by decide +kernel
theorem dX9_image_21 : decode cX9_image 21 = .ok (.aload_n 0, 1) := by decide +kernel
theorem dX9_image_22 : decode cX9_image 22 = .ok (.getfield 327, 3) := by decide +kernel
theorem dX9_image_25 : decode cX9_image 25 = .ok (.ireturn, 1) := by decide +kernel
theorem dX9_restore_0 : decode cX9_restore 0 = .ok (.aload_n 0, 1) := by decide +kernel
theorem dX9_restore_1 : decode cX9_restore 1 = .ok (.getfield 327, 3) := by decide +kernel
theorem dX9_restore_4 : decode cX9_restore 4 = .ok (.ifCond .ne 9, 3) := by decide +kernel
theorem dX9_restore_7 : decode cX9_restore 7 = .ok (.aload_n 0, 1) := by decide +kernel
theorem dX9_restore_8 : decode cX9_restore 8 = .ok (.iconst 2, 1) := by decide +kernel
theorem dX9_restore_9 : decode cX9_restore 9 = .ok (.invokevirtual 64, 3) := by decide +kernel
theorem dX9_restore_12 : decode cX9_restore 12 = .ok (.ireturn, 1) := by decide +kernel
theorem dX9_restore_13 : decode cX9_restore 13 = .ok (.aload_n 0, 1) := by decide +kernel
theorem dX9_restore_14 : decode cX9_restore 14 = .ok (.getfield 10, 3) := by decide +kernel
theorem dX9_restore_17 : decode cX9_restore 17 = .ok (.aload_n 0, 1) := by decide +kernel
theorem dX9_restore_18 : decode cX9_restore 18 = .ok (.getfield 16, 3) := by decide +kernel
theorem dX9_restore_21 : decode cX9_restore 21 = .ok (.invokevirtual 324, 3) := by decide +kernel
theorem dX9_restore_24 : decode cX9_restore 24 = .ok (.aload_n 0, 1) := by decide +kernel
theorem dX9_restore_25 : decode cX9_restore 25 = .ok (.getfield 10, 3) := by decide +kernel
theorem dX9_restore_28 : decode cX9_restore 28 = .ok (.getfield 57, 3) := by decide +kernel
theorem dX9_restore_31 : decode cX9_restore 31 = .ok (.getfield 231, 3) := by decide +kernel
theorem dX9_restore_34 : decode cX9_restore 34 = .ok (.ireturn, 1) := by decide +kernel
theorem dX9_tell_0 : decode cX9_tell 0 = .ok (.aload_n 0, 1) := by decide +kernel
theorem dX9_tell_1 : decode cX9_tell 1 = .ok (.getfield 10, 3) := by decide +kernel
theorem dX9_tell_4 : decode cX9_tell 4 = .ok (.getfield 330, 3) := by decide +kernel
theorem dX9_tell_7 : decode cX9_tell 7 = .ok (.bipush 20, 2) := by decide +kernel
theorem dX9_tell_9 : decode cX9_tell 9 = .ok (.if_icmp .lt 9, 3) := by decide +kernel
theorem dX9_tell_12 : decode cX9_tell 12 = .ok (.aload_n 0, 1) := by decide +kernel
theorem dX9_tell_13 : decode cX9_tell 13 = .ok (.iconst 4, 1) := by decide +kernel
theorem dX9_tell_14 : decode cX9_tell 14 = .ok (.invokevirtual 64, 3) := by decide +kernel
theorem dX9_tell_17 : decode cX9_tell 17 = .ok (.ireturn, 1) := by decide +kernel
theorem dX9_tell_18 : decode cX9_tell 18 = .ok (.aload_n 0, 1) := by decide +kernel
theorem dX9_tell_19 : decode cX9_tell 19 = .ok (.getfield 10, 3) := by decide +kernel
theorem dX9_tell_22 : decode cX9_tell 22 = .ok (.getfield 333, 3) := by decide +kernel
theorem dX9_tell_25 : decode cX9_tell 25 = .ok (.aload_n 0, 1) := by decide +kernel
theorem dX9_tell_26 : decode cX9_tell 26 = .ok (.getfield 10, 3) := by decide +kernel
theorem dX9_tell_29 : decode cX9_tell 29 = .ok (.getfield 330, 3) := by decide +kernel
theorem dX9_tell_32 : decode cX9_tell 32 = .ok (.iload_n 1, 1) := by decide +kernel
theorem dX9_tell_33 : decode cX9_tell 33 = .ok (.iastore, 1) := by decide +kernel
theorem dX9_tell_34 : decode cX9_tell 34 = .ok (.aload_n 0, 1) := by decide +kernel
theorem dX9_tell_35 : decode cX9_tell 35 = .ok (.getfield 10, 3) := by decide +kernel
theorem dX9_tell_38 : decode cX9_tell 38 = .ok (.dup, 1) := by decide +kernel
theorem dX9_tell_39 : decode cX9_tell 39 = .ok (.getfield 330, 3) := by decide +kernel
theorem dX9_tell_42 : decode cX9_tell 42 = .ok (.iconst 1, 1) := by decide +kernel
theorem dX9_tell_43 : decode cX9_tell 43 = .ok (.iadd, 1) := by decide +kernel
theorem dX9_tell_44 : decode cX9_tell 44 = .ok (.putfield 330, 3) := by decide +kernel
theorem dX9_tell_47 : decode cX9_tell 47 = .ok (.aload_n 0, 1) := by decide +kernel
theorem dX9_tell_48 : decode cX9_tell 48 = .ok (.getfield 10, 3) := by decide +kernel
theorem dX9_tell_51 : decode cX9_tell 51 = .ok (.getfield 330, 3) := by decide +kernel
theorem dX9_tell_54 : decode cX9_tell 54 = .ok (.ireturn, 1) := by decide +kernel
theorem dX9_check_0 : decode cX9_check 0 = .ok (.aload_n 0, 1) := by decide +kernel
theorem dX9_check_1 : decode cX9_check 1 = .ok (.getfield 10, 3) := by decide +kernel
theorem dX9_check_4 : decode cX9_check 4 = .ok (.getfield 330, 3) := by decide +kernel
theorem dX9_check_7 : decode cX9_check 7 = .ok (.istore_n 1, 1) := by decide +kernel
theorem dX9_check_8 : decode cX9_check 8 = .ok (.aload_n 0, 1) := by decide +kernel
theorem dX9_check_9 : decode cX9_check 9 = .ok (.getfield 10, 3) := by decide +kernel
theorem dX9_check_12 : decode cX9_check 12 = .ok (.iconst 0, 1) := by decide +kernel
theorem dX9_check_13 : decode cX9_check 13 = .ok (.putfield 330, 3) := by decide +kernel
theorem dX9_check_16 : decode cX9_check 16 = .ok (.aload_n 0, 1) := by decide +kernel
theorem dX9_check_17 : decode cX9_check 17 = .ok (.getfield 22, 3) := by decide +kernel
theorem dX9_check_20 : decode cX9_check 20 = .ok (.aload_n 0, 1) := by decide +kernel
theorem dX9_check_21 : decode cX9_check 21 = .ok (.getfield 10, 3) := by decide +kernel
theorem dX9_check_24 : decode cX9_check 24 = .ok (.getfield 57, 3) := by decide +kernel
theorem dX9_check_27 : decode cX9_check 27 = .ok (.invokevirtual 241, 3) := by decide +kernel
theorem dX9_check_30 : decode cX9_check 30 = .ok (.iconst 0, 1) := by decide +kernel
theorem dX9_check_31 : decode cX9_check 31 = .ok (.istore_n 2, 1) := by decide +kernel
theorem dX9_check_32 : decode cX9_check 32 = .ok (.iload_n 2, 1) := by decide +kernel
theorem dX9_check_33 : decode cX9_check 33 = .ok (.iload_n 1, 1) := by decide +kernel
theorem dX9_check_34 : decode cX9_check 34 = .ok (.if_icmp .ge 49, 3) := by decide +kernel
theorem dX9_check_37 : decode cX9_check 37 = .ok (.aload_n 0, 1) := by decide +kernel
theorem dX9_check_38 : decode cX9_check 38 = .ok (.getfield 22, 3) := by decide +kernel
theorem dX9_check_41 : decode cX9_check 41 = .ok (.iconst 1, 1) := by decide +kernel
theorem dX9_check_42 : decode cX9_check 42 = .ok (.aload_n 0, 1) := by decide +kernel
theorem dX9_check_43 : decode cX9_check 43 = .ok (.getfield 10, 3) := by decide +kernel
theorem dX9_check_46 : decode cX9_check 46 = .ok (.getfield 153, 3) := by decide +kernel
theorem dX9_check_49 : decode cX9_check 49 = .ok (.iconst 1, 1) := by decide +kernel
theorem dX9_check_50 : decode cX9_check 50 = .ok (.aaload, 1) := by decide +kernel
theorem dX9_check_51 : decode cX9_check 51 = .ok (.invokevirtual 234, 3) := by decide +kernel
theorem dX9_check_54 : decode cX9_check 54 = .ok (.aload_n 0, 1) := by decide +kernel
theorem dX9_check_55 : decode cX9_check 55 = .ok (.getfield 22, 3) := by decide +kernel
theorem dX9_check_58 : decode cX9_check 58 = .ok (.getfield 177, 3) := by decide +kernel
theorem dX9_check_61 : decode cX9_check 61 = .ok (.aload_n 0, 1) := by decide +kernel
theorem dX9_check_62 : decode cX9_check 62 = .ok (.getfield 10, 3) := by decide +kernel
theorem dX9_check_65 : decode cX9_check 65 = .ok (.getfield 333, 3) := by decide +kernel
theorem dX9_check_68 : decode cX9_check 68 = .ok (.iload_n 2, 1) := by decide +kernel
theorem dX9_check_69 : decode cX9_check 69 = .ok (.iaload, 1) := by decide +kernel
theorem dX9_check_70 : decode cX9_check 70 = .ok (.if_icmp .eq 7, 3) := by decide +kernel
theorem dX9_check_73 : decode cX9_check 73 = .ok (.iconst 1, 1) := by decide +kernel
theorem dX9_check_74 : decode cX9_check 74 = .ok (.iload_n 2, 1) := by decide +kernel
theorem dX9_check_75 : decode cX9_check 75 = .ok (.iadd, 1) := by decide +kernel
theorem dX9_check_76 : decode cX9_check 76 = .ok (.ireturn, 1) := by decide +kernel
theorem dX9_check_77 : decode cX9_check 77 = .ok (.iinc 2 1, 3) := by decide +kernel
theorem dX9_check_80 : decode cX9_check 80 = .ok (.goto (-48), 3) := by decide +kernel
theorem dX9_check_83 : decode cX9_check 83 = .ok (.iconst 0, 1) := by decide +kernel
theorem dX9_check_84 : decode cX9_check 84 = .ok (.ireturn, 1) := by decide +kernel
theorem dX9_count_0 : decode cX9_count 0 = .ok (.iload_n 1, 1) := by decide +kernel
theorem dX9_count_1 : decode cX9_count 1 = .ok (.tableswitch 153 0 9 #[55, 66, 77, 88, 99, 110, 121, 129, 137, 145], 55) := by decide +kernel
theorem dX9_count_56 : decode cX9_count 56 = .ok (.aload_n 0, 1) := by decide +kernel
theorem dX9_count_57 : decode cX9_count 57 = .ok (.getfield 10, 3) := by decide +kernel
theorem dX9_count_60 : decode cX9_count 60 = .ok (.getfield 57, 3) := by decide +kernel
theorem dX9_count_63 : decode cX9_count 63 = .ok (.getfield 68, 3) := by decide +kernel
theorem dX9_count_66 : decode cX9_count 66 = .ok (.ireturn, 1) := by decide +kernel
theorem dX9_count_67 : decode cX9_count 67 = .ok (.aload_n 0, 1) := by decide +kernel
theorem dX9_count_68 : decode cX9_count 68 = .ok (.getfield 10, 3) := by decide +kernel
theorem dX9_count_71 : decode cX9_count 71 = .ok (.getfield 57, 3) := by decide +kernel
theorem dX9_count_74 : decode cX9_count 74 = .ok (.getfield 108, 3) := by decide +kernel
theorem dX9_count_77 : decode cX9_count 77 = .ok (.ireturn, 1) := by decide +kernel
theorem dX9_count_78 : decode cX9_count 78 = .ok (.aload_n 0, 1) := by decide +kernel
theorem dX9_count_79 : decode cX9_count 79 = .ok (.getfield 10, 3) := by decide +kernel
theorem dX9_count_82 : decode cX9_count 82 = .ok (.getfield 57, 3) := by decide +kernel
theorem dX9_count_85 : decode cX9_count 85 = .ok (.getfield 177, 3) := by decide +kernel
theorem dX9_count_88 : decode cX9_count 88 = .ok (.ireturn, 1) := by decide +kernel
theorem dX9_count_89 : decode cX9_count 89 = .ok (.aload_n 0, 1) := by decide +kernel
theorem dX9_count_90 : decode cX9_count 90 = .ok (.getfield 10, 3) := by decide +kernel
theorem dX9_count_93 : decode cX9_count 93 = .ok (.getfield 57, 3) := by decide +kernel
theorem dX9_count_96 : decode cX9_count 96 = .ok (.getfield 231, 3) := by decide +kernel
theorem dX9_count_99 : decode cX9_count 99 = .ok (.ireturn, 1) := by decide +kernel
theorem dX9_count_100 : decode cX9_count 100 = .ok (.aload_n 0, 1) := by decide +kernel
theorem dX9_count_101 : decode cX9_count 101 = .ok (.getfield 10, 3) := by decide +kernel
theorem dX9_count_104 : decode cX9_count 104 = .ok (.getfield 57, 3) := by decide +kernel
theorem dX9_count_107 : decode cX9_count 107 = .ok (.invokevirtual 336, 3) := by decide +kernel
theorem dX9_count_110 : decode cX9_count 110 = .ok (.ireturn, 1) := by decide +kernel
theorem dX9_count_111 : decode cX9_count 111 = .ok (.aload_n 0, 1) := by decide +kernel
theorem dX9_count_112 : decode cX9_count 112 = .ok (.getfield 10, 3) := by decide +kernel
theorem dX9_count_115 : decode cX9_count 115 = .ok (.getfield 57, 3) := by decide +kernel
theorem dX9_count_118 : decode cX9_count 118 = .ok (.invokevirtual 278, 3) := by decide +kernel
theorem dX9_count_121 : decode cX9_count 121 = .ok (.ireturn, 1) := by decide +kernel
theorem dX9_count_122 : decode cX9_count 122 = .ok (.aload_n 0, 1) := by decide +kernel
theorem dX9_count_123 : decode cX9_count 123 = .ok (.getfield 10, 3) := by decide +kernel
theorem dX9_count_126 : decode cX9_count 126 = .ok (.getfield 137, 3) := by decide +kernel
theorem dX9_count_129 : decode cX9_count 129 = .ok (.ireturn, 1) := by decide +kernel
theorem dX9_count_130 : decode cX9_count 130 = .ok (.aload_n 0, 1) := by decide +kernel
theorem dX9_count_131 : decode cX9_count 131 = .ok (.getfield 10, 3) := by decide +kernel
theorem dX9_count_134 : decode cX9_count 134 = .ok (.getfield 330, 3) := by decide +kernel
theorem dX9_count_137 : decode cX9_count 137 = .ok (.ireturn, 1) := by decide +kernel
theorem dX9_count_138 : decode cX9_count 138 = .ok (.aload_n 0, 1) := by decide +kernel
theorem dX9_count_139 : decode cX9_count 139 = .ok (.getfield 36, 3) := by decide +kernel
theorem dX9_count_142 : decode cX9_count 142 = .ok (.getfield 297, 3) := by decide +kernel
theorem dX9_count_145 : decode cX9_count 145 = .ok (.ireturn, 1) := by decide +kernel
theorem dX9_count_146 : decode cX9_count 146 = .ok (.aload_n 0, 1) := by decide +kernel
theorem dX9_count_147 : decode cX9_count 147 = .ok (.getfield 10, 3) := by decide +kernel
theorem dX9_count_150 : decode cX9_count 150 = .ok (.getfield 290, 3) := by decide +kernel
theorem dX9_count_153 : decode cX9_count 153 = .ok (.ireturn, 1) := by decide +kernel
theorem dX9_count_154 : decode cX9_count 154 = .ok (.aload_n 0, 1) := by decide +kernel
theorem dX9_count_155 : decode cX9_count 155 = .ok (.iconst 1, 1) := by decide +kernel
theorem dX9_count_156 : decode cX9_count 156 = .ok (.invokevirtual 64, 3) := by decide +kernel
theorem dX9_count_159 : decode cX9_count 159 = .ok (.ireturn, 1) := by decide +kernel
theorem dX9_told_0 : decode cX9_told 0 = .ok (.iload_n 1, 1) := by decide +kernel
theorem dX9_told_1 : decode cX9_told 1 = .ok (.iconst 1, 1) := by decide +kernel
theorem dX9_told_2 : decode cX9_told 2 = .ok (.iconst 5, 1) := by decide +kernel
theorem dX9_told_3 : decode cX9_told 3 = .ok (.invokestatic 100, 3) := by decide +kernel
theorem dX9_told_6 : decode cX9_told 6 = .ok (.ifCond .ne 9, 3) := by decide +kernel
theorem dX9_told_9 : decode cX9_told 9 = .ok (.aload_n 0, 1) := by decide +kernel
theorem dX9_told_10 : decode cX9_told 10 = .ok (.iconst 1, 1) := by decide +kernel
theorem dX9_told_11 : decode cX9_told 11 = .ok (.invokevirtual 64, 3) := by decide +kernel
theorem dX9_told_14 : decode cX9_told 14 = .ok (.ireturn, 1) := by decide +kernel
theorem dX9_told_15 : decode cX9_told 15 = .ok (.aload_n 0, 1) := by decide +kernel
theorem dX9_told_16 : decode cX9_told 16 = .ok (.getfield 46, 3) := by decide +kernel
theorem dX9_told_19 : decode cX9_told 19 = .ok (.iload_n 1, 1) := by decide +kernel
theorem dX9_told_20 : decode cX9_told 20 = .ok (.iaload, 1) := by decide +kernel
theorem dX9_told_21 : decode cX9_told 21 = .ok (.ireturn, 1) := by decide +kernel
theorem dX9_fail_0 : decode cX9_fail 0 = .ok (.iload_n 1, 1) := by decide +kernel
theorem dX9_fail_1 : decode cX9_fail 1 = .ok (.iconst 1, 1) := by decide +kernel
theorem dX9_fail_2 : decode cX9_fail 2 = .ok (.iconst 5, 1) := by decide +kernel
theorem dX9_fail_3 : decode cX9_fail 3 = .ok (.invokestatic 100, 3) := by decide +kernel
theorem dX9_fail_6 : decode cX9_fail 6 = .ok (.ifCond .eq 13, 3) := by decide +kernel
theorem dX9_fail_9 : decode cX9_fail 9 = .ok (.aload_n 0, 1) := by decide +kernel
theorem dX9_fail_10 : decode cX9_fail 10 = .ok (.getfield 46, 3) := by decide +kernel
theorem dX9_fail_13 : decode cX9_fail 13 = .ok (.iload_n 1, 1) := by decide +kernel
theorem dX9_fail_14 : decode cX9_fail 14 = .ok (.dup2, 1) := by decide +kernel
theorem dX9_fail_15 : decode cX9_fail 15 = .ok (.iaload, 1) := by decide +kernel
theorem dX9_fail_16 : decode cX9_fail 16 = .ok (.iconst 1, 1) := by decide +kernel
theorem dX9_fail_17 : decode cX9_fail 17 = .ok (.iadd, 1) := by decide +kernel
theorem dX9_fail_18 : decode cX9_fail 18 = .ok (.iastore, 1) := by decide +kernel
theorem dX9_fail_19 : decode cX9_fail 19 = .ok (.ldc_w 339, 3) := by decide +kernel
theorem dX9_fail_22 : decode cX9_fail 22 = .ok (.iload_n 1, 1) := by decide +kernel
theorem dX9_fail_23 : decode cX9_fail 23 = .ok (.isub, 1) := by decide +kernel
theorem dX9_fail_24 : decode cX9_fail 24 = .ok (.ireturn, 1) := by decide +kernel
theorem dX9_within_0 : decode cX9_within 0 = .ok (.iload_n 0, 1) := by decide +kernel
theorem dX9_within_1 : decode cX9_within 1 = .ok (.iload_n 1, 1) := by decide +kernel
theorem dX9_within_2 : decode cX9_within 2 = .ok (.if_icmp .lt 12, 3) := by decide +kernel
theorem dX9_within_5 : decode cX9_within 5 = .ok (.iload_n 0, 1) := by decide +kernel
theorem dX9_within_6 : decode cX9_within 6 = .ok (.iload_n 2, 1) := by decide +kernel
theorem dX9_within_7 : decode cX9_within 7 = .ok (.if_icmp .gt 7, 3) := by decide +kernel
theorem dX9_within_10 : decode cX9_within 10 = .ok (.iconst 1, 1) := by decide +kernel
theorem dX9_within_11 : decode cX9_within 11 = .ok (.goto 4, 3) := by decide +kernel
theorem dX9_within_14 : decode cX9_within 14 = .ok (.iconst 0, 1) := by decide +kernel
theorem dX9_within_15 : decode cX9_within 15 = .ok (.ireturn, 1) := by decide +kernel
theorem dX9_held_0 : decode cX9_held 0 = .ok (.iload_n 0, 1) := by decide +kernel
theorem dX9_held_1 : decode cX9_held 1 = .ok (.ifCond .ge 7, 3) := by decide +kernel
theorem dX9_held_4 : decode cX9_held 4 = .ok (.iconst 0, 1) := by decide +kernel
theorem dX9_held_5 : decode cX9_held 5 = .ok (.goto 13, 3) := by decide +kernel
theorem dX9_held_8 : decode cX9_held 8 = .ok (.iload_n 0, 1) := by decide +kernel
theorem dX9_held_9 : decode cX9_held 9 = .ok (.iload_n 1, 1) := by decide +kernel
theorem dX9_held_10 : decode cX9_held 10 = .ok (.if_icmp .le 7, 3) := by decide +kernel
theorem dX9_held_13 : decode cX9_held 13 = .ok (.iload_n 1, 1) := by decide +kernel
theorem dX9_held_14 : decode cX9_held 14 = .ok (.goto 4, 3) := by decide +kernel
theorem dX9_held_17 : decode cX9_held 17 = .ok (.iload_n 0, 1) := by decide +kernel
theorem dX9_held_18 : decode cX9_held 18 = .ok (.ireturn, 1) := by decide +kernel
theorem dX9_isKindAndNumber_0 : decode cX9_isKindAndNumber 0 = .ok (.iload_n 0, 1) := by decide +kernel
theorem dX9_isKindAndNumber_1 : decode cX9_isKindAndNumber 1 = .ok (.iconst 0, 1) := by decide +kernel
theorem dX9_isKindAndNumber_2 : decode cX9_isKindAndNumber 2 = .ok (.bipush 69, 2) := by decide +kernel
theorem dX9_isKindAndNumber_4 : decode cX9_isKindAndNumber 4 = .ok (.invokestatic 100, 3) := by decide +kernel
theorem dX9_isKindAndNumber_7 : decode cX9_isKindAndNumber 7 = .ok (.ireturn, 1) := by decide +kernel
theorem dX9_isUse_0 : decode cX9_isUse 0 = .ok (.iload_n 0, 1) := by decide +kernel
theorem dX9_isUse_1 : decode cX9_isUse 1 = .ok (.iconst 0, 1) := by decide +kernel
theorem dX9_isUse_2 : decode cX9_isUse 2 = .ok (.iconst 1, 1) := by decide +kernel
theorem dX9_isUse_3 : decode cX9_isUse 3 = .ok (.invokestatic 100, 3) := by decide +kernel
theorem dX9_isUse_6 : decode cX9_isUse 6 = .ok (.ireturn, 1) := by decide +kernel
theorem dX9_isHeat_0 : decode cX9_isHeat 0 = .ok (.iload_n 0, 1) := by decide +kernel
theorem dX9_isHeat_1 : decode cX9_isHeat 1 = .ok (.iconst 0, 1) := by decide +kernel
theorem dX9_isHeat_2 : decode cX9_isHeat 2 = .ok (.bipush 9, 2) := by decide +kernel
theorem dX9_isHeat_4 : decode cX9_isHeat 4 = .ok (.invokestatic 100, 3) := by decide +kernel
theorem dX9_isHeat_7 : decode cX9_isHeat 7 = .ok (.ireturn, 1) := by decide +kernel
theorem dX9_isColour_0 : decode cX9_isColour 0 = .ok (.iload_n 0, 1) := by decide +kernel
theorem dX9_isColour_1 : decode cX9_isColour 1 = .ok (.iconst 0, 1) := by decide +kernel
theorem dX9_isColour_2 : decode cX9_isColour 2 = .ok (.bipush 9, 2) := by decide +kernel
theorem dX9_isColour_4 : decode cX9_isColour 4 = .ok (.invokestatic 100, 3) := by decide +kernel
theorem dX9_isColour_7 : decode cX9_isColour 7 = .ok (.ireturn, 1) := by decide +kernel
theorem dX9_isSheet_0 : decode cX9_isSheet 0 = .ok (.iload_n 0, 1) := by decide +kernel
theorem dX9_isSheet_1 : decode cX9_isSheet 1 = .ok (.iconst 0, 1) := by decide +kernel
theorem dX9_isSheet_2 : decode cX9_isSheet 2 = .ok (.iconst 3, 1) := by decide +kernel
theorem dX9_isSheet_3 : decode cX9_isSheet 3 = .ok (.invokestatic 100, 3) := by decide +kernel
theorem dX9_isSheet_6 : decode cX9_isSheet 6 = .ok (.ireturn, 1) := by decide +kernel
theorem dX9_isMix_0 : decode cX9_isMix 0 = .ok (.iload_n 1, 1) := by decide +kernel
theorem dX9_isMix_1 : decode cX9_isMix 1 = .ok (.iconst 0, 1) := by decide +kernel
theorem dX9_isMix_2 : decode cX9_isMix 2 = .ok (.getstatic 340, 3) := by decide +kernel
theorem dX9_isMix_5 : decode cX9_isMix 5 = .ok (.aload_n 0, 1) := by decide +kernel
theorem dX9_isMix_6 : decode cX9_isMix 6 = .ok (.getfield 10, 3) := by decide +kernel
theorem dX9_isMix_9 : decode cX9_isMix 9 = .ok (.getfield 57, 3) := by decide +kernel
theorem dX9_isMix_12 : decode cX9_isMix 12 = .ok (.getfield 68, 3) := by decide +kernel
theorem dX9_isMix_15 : decode cX9_isMix 15 = .ok (.iaload, 1) := by decide +kernel
theorem dX9_isMix_16 : decode cX9_isMix 16 = .ok (.iconst 1, 1) := by decide +kernel
theorem dX9_isMix_17 : decode cX9_isMix 17 = .ok (.isub, 1) := by decide +kernel
theorem dX9_isMix_18 : decode cX9_isMix 18 = .ok (.invokestatic 100, 3) := by decide +kernel
theorem dX9_isMix_21 : decode cX9_isMix 21 = .ok (.ireturn, 1) := by decide +kernel
theorem dX9_isUnder_0 : decode cX9_isUnder 0 = .ok (.iload_n 0, 1) := by decide +kernel
theorem dX9_isUnder_1 : decode cX9_isUnder 1 = .ok (.istore_n 2, 1) := by decide +kernel
theorem dX9_isUnder_2 : decode cX9_isUnder 2 = .ok (.iconst 0, 1) := by decide +kernel
theorem dX9_isUnder_3 : decode cX9_isUnder 3 = .ok (.istore_n 3, 1) := by decide +kernel
theorem dX9_isUnder_4 : decode cX9_isUnder 4 = .ok (.iload_n 3, 1) := by decide +kernel
theorem dX9_isUnder_5 : decode cX9_isUnder 5 = .ok (.bipush 7, 2) := by decide +kernel
theorem dX9_isUnder_7 : decode cX9_isUnder 7 = .ok (.if_icmp .ge 32, 3) := by decide +kernel
theorem dX9_isUnder_10 : decode cX9_isUnder 10 = .ok (.iload_n 2, 1) := by decide +kernel
theorem dX9_isUnder_11 : decode cX9_isUnder 11 = .ok (.iconst 0, 1) := by decide +kernel
theorem dX9_isUnder_12 : decode cX9_isUnder 12 = .ok (.bipush 6, 2) := by decide +kernel
theorem dX9_isUnder_14 : decode cX9_isUnder 14 = .ok (.invokestatic 100, 3) := by decide +kernel
theorem dX9_isUnder_17 : decode cX9_isUnder 17 = .ok (.ifCond .eq 22, 3) := by decide +kernel
theorem dX9_isUnder_20 : decode cX9_isUnder 20 = .ok (.iload_n 2, 1) := by decide +kernel
theorem dX9_isUnder_21 : decode cX9_isUnder 21 = .ok (.iload_n 1, 1) := by decide +kernel
theorem dX9_isUnder_22 : decode cX9_isUnder 22 = .ok (.if_icmp .ne 5, 3) := by decide +kernel
theorem dX9_isUnder_25 : decode cX9_isUnder 25 = .ok (.iconst 1, 1) := by decide +kernel
theorem dX9_isUnder_26 : decode cX9_isUnder 26 = .ok (.ireturn, 1) := by decide +kernel
theorem dX9_isUnder_27 : decode cX9_isUnder 27 = .ok (.getstatic 343, 3) := by decide +kernel
theorem dX9_isUnder_30 : decode cX9_isUnder 30 = .ok (.iload_n 2, 1) := by decide +kernel
theorem dX9_isUnder_31 : decode cX9_isUnder 31 = .ok (.iaload, 1) := by decide +kernel
theorem dX9_isUnder_32 : decode cX9_isUnder 32 = .ok (.istore_n 2, 1) := by decide +kernel
theorem dX9_isUnder_33 : decode cX9_isUnder 33 = .ok (.iinc 3 1, 3) := by decide +kernel
theorem dX9_isUnder_36 : decode cX9_isUnder 36 = .ok (.goto (-32), 3) := by decide +kernel
theorem dX9_isUnder_39 : decode cX9_isUnder 39 = .ok (.iconst 0, 1) := by decide +kernel
theorem dX9_isUnder_40 : decode cX9_isUnder 40 = .ok (.ireturn, 1) := by decide +kernel
theorem dX9_commonDivisor_0 : decode cX9_commonDivisor 0 = .ok (.iload_n 1, 1) := by decide +kernel
theorem dX9_commonDivisor_1 : decode cX9_commonDivisor 1 = .ok (.istore_n 2, 1) := by decide +kernel
theorem dX9_commonDivisor_2 : decode cX9_commonDivisor 2 = .ok (.iload_n 2, 1) := by decide +kernel
theorem dX9_commonDivisor_3 : decode cX9_commonDivisor 3 = .ok (.iconst 1, 1) := by decide +kernel
theorem dX9_commonDivisor_4 : decode cX9_commonDivisor 4 = .ok (.if_icmp .le 23, 3) := by decide +kernel
theorem dX9_commonDivisor_7 : decode cX9_commonDivisor 7 = .ok (.iload_n 0, 1) := by decide +kernel
theorem dX9_commonDivisor_8 : decode cX9_commonDivisor 8 = .ok (.iload_n 2, 1) := by decide +kernel
theorem dX9_commonDivisor_9 : decode cX9_commonDivisor 9 = .ok (.irem, 1) := by decide +kernel
theorem dX9_commonDivisor_10 : decode cX9_commonDivisor 10 = .ok (.ifCond .ne 11, 3) := by decide +kernel
theorem dX9_commonDivisor_13 : decode cX9_commonDivisor 13 = .ok (.iload_n 1, 1) := by decide +kernel
theorem dX9_commonDivisor_14 : decode cX9_commonDivisor 14 = .ok (.iload_n 2, 1) := by decide +kernel
theorem dX9_commonDivisor_15 : decode cX9_commonDivisor 15 = .ok (.irem, 1) := by decide +kernel
theorem dX9_commonDivisor_16 : decode cX9_commonDivisor 16 = .ok (.ifCond .ne 5, 3) := by decide +kernel
theorem dX9_commonDivisor_19 : decode cX9_commonDivisor 19 = .ok (.iload_n 2, 1) := by decide +kernel
theorem dX9_commonDivisor_20 : decode cX9_commonDivisor 20 = .ok (.ireturn, 1) := by decide +kernel
theorem dX9_commonDivisor_21 : decode cX9_commonDivisor 21 = .ok (.iinc 2 (-1), 3) := by decide +kernel
theorem dX9_commonDivisor_24 : decode cX9_commonDivisor 24 = .ok (.goto (-22), 3) := by decide +kernel
theorem dX9_commonDivisor_27 : decode cX9_commonDivisor 27 = .ok (.iconst 1, 1) := by decide +kernel
theorem dX9_commonDivisor_28 : decode cX9_commonDivisor 28 = .ok (.ireturn, 1) := by decide +kernel
theorem dX9_draw_0 : decode cX9_draw 0 = .ok (.aload_n 0, 1) := by decide +kernel
theorem dX9_draw_1 : decode cX9_draw 1 = .ok (.getfield 10, 3) := by decide +kernel
theorem dX9_draw_4 : decode cX9_draw 4 = .ok (.aload_n 0, 1) := by decide +kernel
theorem dX9_draw_5 : decode cX9_draw 5 = .ok (.getfield 10, 3) := by decide +kernel
theorem dX9_draw_8 : decode cX9_draw 8 = .ok (.getfield 290, 3) := by decide +kernel
theorem dX9_draw_11 : decode cX9_draw 11 = .ok (.ldc_w 346, 3) := by decide +kernel
theorem dX9_draw_14 : decode cX9_draw 14 = .ok (.imul, 1) := by decide +kernel
theorem dX9_draw_15 : decode cX9_draw 15 = .ok (.sipush 12345, 3) := by decide +kernel
theorem dX9_draw_18 : decode cX9_draw 18 = .ok (.iadd, 1) := by decide +kernel
theorem dX9_draw_19 : decode cX9_draw 19 = .ok (.putfield 290, 3) := by decide +kernel
theorem dX9_draw_22 : decode cX9_draw 22 = .ok (.aload_n 0, 1) := by decide +kernel
theorem dX9_draw_23 : decode cX9_draw 23 = .ok (.getfield 10, 3) := by decide +kernel
theorem dX9_draw_26 : decode cX9_draw 26 = .ok (.getfield 290, 3) := by decide +kernel
theorem dX9_draw_29 : decode cX9_draw 29 = .ok (.bipush 8, 2) := by decide +kernel
theorem dX9_draw_31 : decode cX9_draw 31 = .ok (.iushr, 1) := by decide +kernel
theorem dX9_draw_32 : decode cX9_draw 32 = .ok (.ireturn, 1) := by decide +kernel
theorem dX9_drawHedge_0 : decode cX9_drawHedge 0 = .ok (.aload_n 0, 1) := by decide +kernel
theorem dX9_drawHedge_1 : decode cX9_drawHedge 1 = .ok (.getfield 10, 3) := by decide +kernel
theorem dX9_drawHedge_4 : decode cX9_drawHedge 4 = .ok (.getfield 57, 3) := by decide +kernel
theorem dX9_drawHedge_7 : decode cX9_drawHedge 7 = .ok (.getfield 68, 3) := by decide +kernel
theorem dX9_drawHedge_10 : decode cX9_drawHedge 10 = .ok (.istore_n 1, 1) := by decide +kernel
theorem dX9_drawHedge_11 : decode cX9_drawHedge 11 = .ok (.iload_n 1, 1) := by decide +kernel
theorem dX9_drawHedge_12 : decode cX9_drawHedge 12 = .ok (.ifCond .le 32, 3) := by decide +kernel
theorem dX9_drawHedge_15 : decode cX9_drawHedge 15 = .ok (.aload_n 0, 1) := by decide +kernel
theorem dX9_drawHedge_16 : decode cX9_drawHedge 16 = .ok (.invokevirtual 347, 3) := by decide +kernel
theorem dX9_drawHedge_19 : decode cX9_drawHedge 19 = .ok (.iload_n 1, 1) := by decide +kernel
theorem dX9_drawHedge_20 : decode cX9_drawHedge 20 = .ok (.irem, 1) := by decide +kernel
theorem dX9_drawHedge_21 : decode cX9_drawHedge 21 = .ok (.istore_n 2, 1) := by decide +kernel
theorem dX9_drawHedge_22 : decode cX9_drawHedge 22 = .ok (.aload_n 0, 1) := by decide +kernel
theorem dX9_drawHedge_23 : decode cX9_drawHedge 23 = .ok (.getfield 10, 3) := by decide +kernel
theorem dX9_drawHedge_26 : decode cX9_drawHedge 26 = .ok (.getfield 57, 3) := by decide +kernel
theorem dX9_drawHedge_29 : decode cX9_drawHedge 29 = .ok (.getfield 72, 3) := by decide +kernel
theorem dX9_drawHedge_32 : decode cX9_drawHedge 32 = .ok (.iload_n 2, 1) := by decide +kernel
theorem dX9_drawHedge_33 : decode cX9_drawHedge 33 = .ok (.aaload, 1) := by decide +kernel
theorem dX9_drawHedge_34 : decode cX9_drawHedge 34 = .ok (.aload_n 0, 1) := by decide +kernel
theorem dX9_drawHedge_35 : decode cX9_drawHedge 35 = .ok (.invokevirtual 347, 3) := by decide +kernel
theorem dX9_drawHedge_38 : decode cX9_drawHedge 38 = .ok (.bipush 10, 2) := by decide +kernel
theorem dX9_drawHedge_40 : decode cX9_drawHedge 40 = .ok (.irem, 1) := by decide +kernel
theorem dX9_drawHedge_41 : decode cX9_drawHedge 41 = .ok (.putfield 91, 3) := by decide +kernel
theorem dX9_drawHedge_44 : decode cX9_drawHedge 44 = .ok (.return_, 1) := by decide +kernel
theorem dX9_colourOfAsh_0 : decode cX9_colourOfAsh 0 = .ok (.aload_n 0, 1) := by decide +kernel
theorem dX9_colourOfAsh_1 : decode cX9_colourOfAsh 1 = .ok (.getfield 10, 3) := by decide +kernel
theorem dX9_colourOfAsh_4 : decode cX9_colourOfAsh 4 = .ok (.getfield 153, 3) := by decide +kernel
theorem dX9_colourOfAsh_7 : decode cX9_colourOfAsh 7 = .ok (.iconst 0, 1) := by decide +kernel
theorem dX9_colourOfAsh_8 : decode cX9_colourOfAsh 8 = .ok (.aaload, 1) := by decide +kernel
theorem dX9_colourOfAsh_9 : decode cX9_colourOfAsh 9 = .ok (.aload_n 1, 1) := by decide +kernel
theorem dX9_colourOfAsh_10 : decode cX9_colourOfAsh 10 = .ok (.getfield 88, 3) := by decide +kernel
theorem dX9_colourOfAsh_13 : decode cX9_colourOfAsh 13 = .ok (.aload_n 1, 1) := by decide +kernel
theorem dX9_colourOfAsh_14 : decode cX9_colourOfAsh 14 = .ok (.getfield 85, 3) := by decide +kernel
theorem dX9_colourOfAsh_17 : decode cX9_colourOfAsh 17 = .ok (.iload_n 2, 1) := by decide +kernel
theorem dX9_colourOfAsh_18 : decode cX9_colourOfAsh 18 = .ok (.invokevirtual 169, 3) := by decide +kernel
theorem dX9_colourOfAsh_21 : decode cX9_colourOfAsh 21 = .ok (.istore_n 3, 1) := by decide +kernel
theorem dX9_colourOfAsh_22 : decode cX9_colourOfAsh 22 = .ok (.iload_n 2, 1) := by decide +kernel
theorem dX9_colourOfAsh_23 : decode cX9_colourOfAsh 23 = .ok (.iconst 5, 1) := by decide +kernel
theorem dX9_colourOfAsh_24 : decode cX9_colourOfAsh 24 = .ok (.if_icmp .ge 7, 3) := by decide +kernel
theorem dX9_colourOfAsh_27 : decode cX9_colourOfAsh 27 = .ok (.iload_n 3, 1) := by decide +kernel
theorem dX9_colourOfAsh_28 : decode cX9_colourOfAsh 28 = .ok (.goto 7, 3) := by decide +kernel
theorem dX9_colourOfAsh_31 : decode cX9_colourOfAsh 31 = .ok (.aload_n 1, 1) := by decide +kernel
theorem dX9_colourOfAsh_32 : decode cX9_colourOfAsh 32 = .ok (.getfield 88, 3) := by decide +kernel
theorem dX9_colourOfAsh_35 : decode cX9_colourOfAsh 35 = .ok (.istore 4, 2) := by decide +kernel
theorem dX9_colourOfAsh_37 : decode cX9_colourOfAsh 37 = .ok (.aload_n 1, 1) := by decide +kernel
theorem dX9_colourOfAsh_38 : decode cX9_colourOfAsh 38 = .ok (.getfield 85, 3) := by decide +kernel
theorem dX9_colourOfAsh_41 : decode cX9_colourOfAsh 41 = .ok (.tableswitch 71 1 6 #[39, 43, 47, 50, 56, 65], 39) := by decide +kernel
theorem dX9_colourOfAsh_80 : decode cX9_colourOfAsh 80 = .ok (.iload_n 3, 1) := by decide +kernel
theorem dX9_colourOfAsh_81 : decode cX9_colourOfAsh 81 = .ok (.iconst 1, 1) := by decide +kernel
theorem dX9_colourOfAsh_82 : decode cX9_colourOfAsh 82 = .ok (.iadd, 1) := by decide +kernel
theorem dX9_colourOfAsh_83 : decode cX9_colourOfAsh 83 = .ok (.ireturn, 1) := by decide +kernel
theorem dX9_colourOfAsh_84 : decode cX9_colourOfAsh 84 = .ok (.iload_n 3, 1) := by decide +kernel
theorem dX9_colourOfAsh_85 : decode cX9_colourOfAsh 85 = .ok (.iconst 2, 1) := by decide +kernel
theorem dX9_colourOfAsh_86 : decode cX9_colourOfAsh 86 = .ok (.imul, 1) := by decide +kernel
theorem dX9_colourOfAsh_87 : decode cX9_colourOfAsh 87 = .ok (.ireturn, 1) := by decide +kernel
theorem dX9_colourOfAsh_88 : decode cX9_colourOfAsh 88 = .ok (.iload 4, 2) := by decide +kernel
theorem dX9_colourOfAsh_90 : decode cX9_colourOfAsh 90 = .ok (.ireturn, 1) := by decide +kernel
theorem dX9_colourOfAsh_91 : decode cX9_colourOfAsh 91 = .ok (.iload_n 3, 1) := by decide +kernel
theorem dX9_colourOfAsh_92 : decode cX9_colourOfAsh 92 = .ok (.iconst 1, 1) := by decide +kernel
theorem dX9_colourOfAsh_93 : decode cX9_colourOfAsh 93 = .ok (.iadd, 1) := by decide +kernel
theorem dX9_colourOfAsh_94 : decode cX9_colourOfAsh 94 = .ok (.iload_n 2, 1) := by decide +kernel
theorem dX9_colourOfAsh_95 : decode cX9_colourOfAsh 95 = .ok (.iadd, 1) := by decide +kernel
theorem dX9_colourOfAsh_96 : decode cX9_colourOfAsh 96 = .ok (.ireturn, 1) := by decide +kernel
theorem dX9_colourOfAsh_97 : decode cX9_colourOfAsh 97 = .ok (.iload_n 3, 1) := by decide +kernel
theorem dX9_colourOfAsh_98 : decode cX9_colourOfAsh 98 = .ok (.iconst 2, 1) := by decide +kernel
theorem dX9_colourOfAsh_99 : decode cX9_colourOfAsh 99 = .ok (.imul, 1) := by decide +kernel
theorem dX9_colourOfAsh_100 : decode cX9_colourOfAsh 100 = .ok (.aload_n 1, 1) := by decide +kernel
theorem dX9_colourOfAsh_101 : decode cX9_colourOfAsh 101 = .ok (.getfield 88, 3) := by decide +kernel
theorem dX9_colourOfAsh_104 : decode cX9_colourOfAsh 104 = .ok (.isub, 1) := by decide +kernel
theorem dX9_colourOfAsh_105 : decode cX9_colourOfAsh 105 = .ok (.ireturn, 1) := by decide +kernel
theorem dX9_colourOfAsh_106 : decode cX9_colourOfAsh 106 = .ok (.bipush 9, 2) := by decide +kernel
theorem dX9_colourOfAsh_108 : decode cX9_colourOfAsh 108 = .ok (.iload 4, 2) := by decide +kernel
theorem dX9_colourOfAsh_110 : decode cX9_colourOfAsh 110 = .ok (.isub, 1) := by decide +kernel
theorem dX9_colourOfAsh_111 : decode cX9_colourOfAsh 111 = .ok (.ireturn, 1) := by decide +kernel
theorem dX9_colourOfAsh_112 : decode cX9_colourOfAsh 112 = .ok (.iload_n 3, 1) := by decide +kernel
theorem dX9_colourOfAsh_113 : decode cX9_colourOfAsh 113 = .ok (.ireturn, 1) := by decide +kernel
theorem dX9_restByTen_0 : decode cX9_restByTen 0 = .ok (.iload_n 0, 1) := by decide +kernel
theorem dX9_restByTen_1 : decode cX9_restByTen 1 = .ok (.bipush 10, 2) := by decide +kernel
theorem dX9_restByTen_3 : decode cX9_restByTen 3 = .ok (.irem, 1) := by decide +kernel
theorem dX9_restByTen_4 : decode cX9_restByTen 4 = .ok (.istore_n 1, 1) := by decide +kernel
theorem dX9_restByTen_5 : decode cX9_restByTen 5 = .ok (.iload_n 1, 1) := by decide +kernel
theorem dX9_restByTen_6 : decode cX9_restByTen 6 = .ok (.ifCond .ge 10, 3) := by decide +kernel
theorem dX9_restByTen_9 : decode cX9_restByTen 9 = .ok (.iload_n 1, 1) := by decide +kernel
theorem dX9_restByTen_10 : decode cX9_restByTen 10 = .ok (.bipush 10, 2) := by decide +kernel
theorem dX9_restByTen_12 : decode cX9_restByTen 12 = .ok (.iadd, 1) := by decide +kernel
theorem dX9_restByTen_13 : decode cX9_restByTen 13 = .ok (.goto 4, 3) := by decide +kernel
theorem dX9_restByTen_16 : decode cX9_restByTen 16 = .ok (.iload_n 1, 1) := by decide +kernel
theorem dX9_restByTen_17 : decode cX9_restByTen 17 = .ok (.ireturn, 1) := by decide +kernel
theorem dX9_colourOfMix_0 : decode cX9_colourOfMix 0 = .ok (.iconst 0, 1) := by decide +kernel
theorem dX9_colourOfMix_1 : decode cX9_colourOfMix 1 = .ok (.istore_n 3, 1) := by decide +kernel
theorem dX9_colourOfMix_2 : decode cX9_colourOfMix 2 = .ok (.iload_n 1, 1) := by decide +kernel
theorem dX9_colourOfMix_3 : decode cX9_colourOfMix 3 = .ok (.istore 4, 2) := by decide +kernel
theorem dX9_colourOfMix_5 : decode cX9_colourOfMix 5 = .ok (.iconst 0, 1) := by decide +kernel
theorem dX9_colourOfMix_6 : decode cX9_colourOfMix 6 = .ok (.istore 5, 2) := by decide +kernel
theorem dX9_colourOfMix_8 : decode cX9_colourOfMix 8 = .ok (.iload 5, 2) := by decide +kernel
theorem dX9_colourOfMix_10 : decode cX9_colourOfMix 10 = .ok (.aload_n 0, 1) := by decide +kernel
theorem dX9_colourOfMix_11 : decode cX9_colourOfMix 11 = .ok (.getfield 10, 3) := by decide +kernel
theorem dX9_colourOfMix_14 : decode cX9_colourOfMix 14 = .ok (.getfield 57, 3) := by decide +kernel
theorem dX9_colourOfMix_17 : decode cX9_colourOfMix 17 = .ok (.getfield 68, 3) := by decide +kernel
theorem dX9_colourOfMix_20 : decode cX9_colourOfMix 20 = .ok (.if_icmp .ge 67, 3) := by decide +kernel
theorem dX9_colourOfMix_23 : decode cX9_colourOfMix 23 = .ok (.iload 4, 2) := by decide +kernel
theorem dX9_colourOfMix_25 : decode cX9_colourOfMix 25 = .ok (.bipush 10, 2) := by decide +kernel
theorem dX9_colourOfMix_27 : decode cX9_colourOfMix 27 = .ok (.irem, 1) := by decide +kernel
theorem dX9_colourOfMix_28 : decode cX9_colourOfMix 28 = .ok (.istore 6, 2) := by decide +kernel
theorem dX9_colourOfMix_30 : decode cX9_colourOfMix 30 = .ok (.iload 4, 2) := by decide +kernel
theorem dX9_colourOfMix_32 : decode cX9_colourOfMix 32 = .ok (.bipush 10, 2) := by decide +kernel
theorem dX9_colourOfMix_34 : decode cX9_colourOfMix 34 = .ok (.idiv, 1) := by decide +kernel
theorem dX9_colourOfMix_35 : decode cX9_colourOfMix 35 = .ok (.istore 4, 2) := by decide +kernel
theorem dX9_colourOfMix_37 : decode cX9_colourOfMix 37 = .ok (.aload_n 0, 1) := by decide +kernel
theorem dX9_colourOfMix_38 : decode cX9_colourOfMix 38 = .ok (.getfield 10, 3) := by decide +kernel
theorem dX9_colourOfMix_41 : decode cX9_colourOfMix 41 = .ok (.getfield 57, 3) := by decide +kernel
theorem dX9_colourOfMix_44 : decode cX9_colourOfMix 44 = .ok (.getfield 72, 3) := by decide +kernel
theorem dX9_colourOfMix_47 : decode cX9_colourOfMix 47 = .ok (.iload 5, 2) := by decide +kernel
theorem dX9_colourOfMix_49 : decode cX9_colourOfMix 49 = .ok (.aaload, 1) := by decide +kernel
theorem dX9_colourOfMix_50 : decode cX9_colourOfMix 50 = .ok (.astore 7, 2) := by decide +kernel
theorem dX9_colourOfMix_52 : decode cX9_colourOfMix 52 = .ok (.iload 6, 2) := by decide +kernel
theorem dX9_colourOfMix_54 : decode cX9_colourOfMix 54 = .ok (.ifCond .le 14, 3) := by decide +kernel
theorem dX9_colourOfMix_57 : decode cX9_colourOfMix 57 = .ok (.aload 7, 2) := by decide +kernel
theorem dX9_colourOfMix_59 : decode cX9_colourOfMix 59 = .ok (.iload_n 2, 1) := by decide +kernel
theorem dX9_colourOfMix_60 : decode cX9_colourOfMix 60 = .ok (.invokevirtual 350, 3) := by decide +kernel
theorem dX9_colourOfMix_63 : decode cX9_colourOfMix 63 = .ok (.ifCond .eq 5, 3) := by decide +kernel
theorem dX9_colourOfMix_66 : decode cX9_colourOfMix 66 = .ok (.iconst (-1), 1) := by decide +kernel
theorem dX9_colourOfMix_67 : decode cX9_colourOfMix 67 = .ok (.ireturn, 1) := by decide +kernel
theorem dX9_colourOfMix_68 : decode cX9_colourOfMix 68 = .ok (.iload_n 3, 1) := by decide +kernel
theorem dX9_colourOfMix_69 : decode cX9_colourOfMix 69 = .ok (.iload 6, 2) := by decide +kernel
theorem dX9_colourOfMix_71 : decode cX9_colourOfMix 71 = .ok (.aload_n 0, 1) := by decide +kernel
theorem dX9_colourOfMix_72 : decode cX9_colourOfMix 72 = .ok (.aload 7, 2) := by decide +kernel
theorem dX9_colourOfMix_74 : decode cX9_colourOfMix 74 = .ok (.iload_n 2, 1) := by decide +kernel
theorem dX9_colourOfMix_75 : decode cX9_colourOfMix 75 = .ok (.invokevirtual 353, 3) := by decide +kernel
theorem dX9_colourOfMix_78 : decode cX9_colourOfMix 78 = .ok (.imul, 1) := by decide +kernel
theorem dX9_colourOfMix_79 : decode cX9_colourOfMix 79 = .ok (.iadd, 1) := by decide +kernel
theorem dX9_colourOfMix_80 : decode cX9_colourOfMix 80 = .ok (.istore_n 3, 1) := by decide +kernel
theorem dX9_colourOfMix_81 : decode cX9_colourOfMix 81 = .ok (.iinc 5 1, 3) := by decide +kernel
theorem dX9_colourOfMix_84 : decode cX9_colourOfMix 84 = .ok (.goto (-76), 3) := by decide +kernel
theorem dX9_colourOfMix_87 : decode cX9_colourOfMix 87 = .ok (.iload_n 3, 1) := by decide +kernel
theorem dX9_colourOfMix_88 : decode cX9_colourOfMix 88 = .ok (.invokestatic 357, 3) := by decide +kernel
theorem dX9_colourOfMix_91 : decode cX9_colourOfMix 91 = .ok (.ireturn, 1) := by decide +kernel
theorem dX9_heatsGiving_0 : decode cX9_heatsGiving 0 = .ok (.iconst 0, 1) := by decide +kernel
theorem dX9_heatsGiving_1 : decode cX9_heatsGiving 1 = .ok (.istore_n 3, 1) := by decide +kernel
theorem dX9_heatsGiving_2 : decode cX9_heatsGiving 2 = .ok (.iconst 0, 1) := by decide +kernel
theorem dX9_heatsGiving_3 : decode cX9_heatsGiving 3 = .ok (.istore 4, 2) := by decide +kernel
theorem dX9_heatsGiving_5 : decode cX9_heatsGiving 5 = .ok (.iload 4, 2) := by decide +kernel
theorem dX9_heatsGiving_7 : decode cX9_heatsGiving 7 = .ok (.bipush 10, 2) := by decide +kernel
theorem dX9_heatsGiving_9 : decode cX9_heatsGiving 9 = .ok (.if_icmp .ge 27, 3) := by decide +kernel
theorem dX9_heatsGiving_12 : decode cX9_heatsGiving 12 = .ok (.aload_n 0, 1) := by decide +kernel
theorem dX9_heatsGiving_13 : decode cX9_heatsGiving 13 = .ok (.iload_n 1, 1) := by decide +kernel
theorem dX9_heatsGiving_14 : decode cX9_heatsGiving 14 = .ok (.iload 4, 2) := by decide +kernel
theorem dX9_heatsGiving_16 : decode cX9_heatsGiving 16 = .ok (.invokevirtual 224, 3) := by decide +kernel
theorem dX9_heatsGiving_19 : decode cX9_heatsGiving 19 = .ok (.iload_n 2, 1) := by decide +kernel
theorem dX9_heatsGiving_20 : decode cX9_heatsGiving 20 = .ok (.if_icmp .ne 10, 3) := by decide +kernel
theorem dX9_heatsGiving_23 : decode cX9_heatsGiving 23 = .ok (.iload_n 3, 1) := by decide +kernel
theorem dX9_heatsGiving_24 : decode cX9_heatsGiving 24 = .ok (.iconst 1, 1) := by decide +kernel
theorem dX9_heatsGiving_25 : decode cX9_heatsGiving 25 = .ok (.iload 4, 2) := by decide +kernel
theorem dX9_heatsGiving_27 : decode cX9_heatsGiving 27 = .ok (.ishl, 1) := by decide +kernel
theorem dX9_heatsGiving_28 : decode cX9_heatsGiving 28 = .ok (.ior, 1) := by decide +kernel
theorem dX9_heatsGiving_29 : decode cX9_heatsGiving 29 = .ok (.istore_n 3, 1) := by decide +kernel
theorem dX9_heatsGiving_30 : decode cX9_heatsGiving 30 = .ok (.iinc 4 1, 3) := by decide +kernel
theorem dX9_heatsGiving_33 : decode cX9_heatsGiving 33 = .ok (.goto (-28), 3) := by decide +kernel
theorem dX9_heatsGiving_36 : decode cX9_heatsGiving 36 = .ok (.iload_n 3, 1) := by decide +kernel
theorem dX9_heatsGiving_37 : decode cX9_heatsGiving 37 = .ok (.ireturn, 1) := by decide +kernel
theorem dX9_canHaveGiven_0 : decode cX9_canHaveGiven 0 = .ok (.iconst 0, 1) := by decide +kernel
theorem dX9_canHaveGiven_1 : decode cX9_canHaveGiven 1 = .ok (.istore_n 3, 1) := by decide +kernel
theorem dX9_canHaveGiven_2 : decode cX9_canHaveGiven 2 = .ok (.iload_n 3, 1) := by decide +kernel
theorem dX9_canHaveGiven_3 : decode cX9_canHaveGiven 3 = .ok (.aload_n 2, 1) := by decide +kernel
theorem dX9_canHaveGiven_4 : decode cX9_canHaveGiven 4 = .ok (.getfield 265, 3) := by decide +kernel
theorem dX9_canHaveGiven_7 : decode cX9_canHaveGiven 7 = .ok (.if_icmp .ge 38, 3) := by decide +kernel
theorem dX9_canHaveGiven_10 : decode cX9_canHaveGiven 10 = .ok (.aload_n 2, 1) := by decide +kernel
theorem dX9_canHaveGiven_11 : decode cX9_canHaveGiven 11 = .ok (.getfield 315, 3) := by decide +kernel
theorem dX9_canHaveGiven_14 : decode cX9_canHaveGiven 14 = .ok (.iload_n 3, 1) := by decide +kernel
theorem dX9_canHaveGiven_15 : decode cX9_canHaveGiven 15 = .ok (.iaload, 1) := by decide +kernel
theorem dX9_canHaveGiven_16 : decode cX9_canHaveGiven 16 = .ok (.istore 4, 2) := by decide +kernel
theorem dX9_canHaveGiven_18 : decode cX9_canHaveGiven 18 = .ok (.iload 4, 2) := by decide +kernel
theorem dX9_canHaveGiven_20 : decode cX9_canHaveGiven 20 = .ok (.ifCond .lt 19, 3) := by decide +kernel
theorem dX9_canHaveGiven_23 : decode cX9_canHaveGiven 23 = .ok (.iload 4, 2) := by decide +kernel
theorem dX9_canHaveGiven_25 : decode cX9_canHaveGiven 25 = .ok (.aload_n 0, 1) := by decide +kernel
theorem dX9_canHaveGiven_26 : decode cX9_canHaveGiven 26 = .ok (.aload_n 1, 1) := by decide +kernel
theorem dX9_canHaveGiven_27 : decode cX9_canHaveGiven 27 = .ok (.iload_n 3, 1) := by decide +kernel
theorem dX9_canHaveGiven_28 : decode cX9_canHaveGiven 28 = .ok (.invokevirtual 353, 3) := by decide +kernel
theorem dX9_canHaveGiven_31 : decode cX9_canHaveGiven 31 = .ok (.invokestatic 357, 3) := by decide +kernel
theorem dX9_canHaveGiven_34 : decode cX9_canHaveGiven 34 = .ok (.if_icmp .eq 5, 3) := by decide +kernel
theorem dX9_canHaveGiven_37 : decode cX9_canHaveGiven 37 = .ok (.iconst 0, 1) := by decide +kernel
theorem dX9_canHaveGiven_38 : decode cX9_canHaveGiven 38 = .ok (.ireturn, 1) := by decide +kernel
theorem dX9_canHaveGiven_39 : decode cX9_canHaveGiven 39 = .ok (.iinc 3 1, 3) := by decide +kernel
theorem dX9_canHaveGiven_42 : decode cX9_canHaveGiven 42 = .ok (.goto (-40), 3) := by decide +kernel
theorem dX9_canHaveGiven_45 : decode cX9_canHaveGiven 45 = .ok (.iconst 1, 1) := by decide +kernel
theorem dX9_canHaveGiven_46 : decode cX9_canHaveGiven 46 = .ok (.ireturn, 1) := by decide +kernel
theorem dX9_prepareRecipes_0 : decode cX9_prepareRecipes 0 = .ok (.iconst 0, 1) := by decide +kernel
theorem dX9_prepareRecipes_1 : decode cX9_prepareRecipes 1 = .ok (.istore_n 3, 1) := by decide +kernel
theorem dX9_prepareRecipes_2 : decode cX9_prepareRecipes 2 = .ok (.iload_n 3, 1) := by decide +kernel
theorem dX9_prepareRecipes_3 : decode cX9_prepareRecipes 3 = .ok (.aload_n 0, 1) := by decide +kernel
theorem dX9_prepareRecipes_4 : decode cX9_prepareRecipes 4 = .ok (.getfield 10, 3) := by decide +kernel
theorem dX9_prepareRecipes_7 : decode cX9_prepareRecipes 7 = .ok (.getfield 57, 3) := by decide +kernel
theorem dX9_prepareRecipes_10 : decode cX9_prepareRecipes 10 = .ok (.getfield 68, 3) := by decide +kernel
theorem dX9_prepareRecipes_13 : decode cX9_prepareRecipes 13 = .ok (.if_icmp .ge 65, 3) := by decide +kernel
theorem dX9_prepareRecipes_16 : decode cX9_prepareRecipes 16 = .ok (.aload_n 0, 1) := by decide +kernel
theorem dX9_prepareRecipes_17 : decode cX9_prepareRecipes 17 = .ok (.getfield 10, 3) := by decide +kernel
theorem dX9_prepareRecipes_20 : decode cX9_prepareRecipes 20 = .ok (.getfield 57, 3) := by decide +kernel
theorem dX9_prepareRecipes_23 : decode cX9_prepareRecipes 23 = .ok (.getfield 72, 3) := by decide +kernel
theorem dX9_prepareRecipes_26 : decode cX9_prepareRecipes 26 = .ok (.iload_n 3, 1) := by decide +kernel
theorem dX9_prepareRecipes_27 : decode cX9_prepareRecipes 27 = .ok (.aaload, 1) := by decide +kernel
theorem dX9_prepareRecipes_28 : decode cX9_prepareRecipes 28 = .ok (.astore 4, 2) := by decide +kernel
theorem dX9_prepareRecipes_30 : decode cX9_prepareRecipes 30 = .ok (.aload_n 0, 1) := by decide +kernel
theorem dX9_prepareRecipes_31 : decode cX9_prepareRecipes 31 = .ok (.getfield 50, 3) := by decide +kernel
theorem dX9_prepareRecipes_34 : decode cX9_prepareRecipes 34 = .ok (.iload_n 3, 1) := by decide +kernel
theorem dX9_prepareRecipes_35 : decode cX9_prepareRecipes 35 = .ok (.aload_n 0, 1) := by decide +kernel
theorem dX9_prepareRecipes_36 : decode cX9_prepareRecipes 36 = .ok (.aload 4, 2) := by decide +kernel
theorem dX9_prepareRecipes_38 : decode cX9_prepareRecipes 38 = .ok (.iload_n 2, 1) := by decide +kernel
theorem dX9_prepareRecipes_39 : decode cX9_prepareRecipes 39 = .ok (.invokevirtual 353, 3) := by decide +kernel
theorem dX9_prepareRecipes_42 : decode cX9_prepareRecipes 42 = .ok (.iastore, 1) := by decide +kernel
theorem dX9_prepareRecipes_43 : decode cX9_prepareRecipes 43 = .ok (.aload_n 0, 1) := by decide +kernel
theorem dX9_prepareRecipes_44 : decode cX9_prepareRecipes 44 = .ok (.getfield 53, 3) := by decide +kernel
theorem dX9_prepareRecipes_47 : decode cX9_prepareRecipes 47 = .ok (.iload_n 3, 1) := by decide +kernel
theorem dX9_prepareRecipes_48 : decode cX9_prepareRecipes 48 = .ok (.aload 4, 2) := by decide +kernel
theorem dX9_prepareRecipes_50 : decode cX9_prepareRecipes 50 = .ok (.iload_n 2, 1) := by decide +kernel
theorem dX9_prepareRecipes_51 : decode cX9_prepareRecipes 51 = .ok (.invokevirtual 350, 3) := by decide +kernel
theorem dX9_prepareRecipes_54 : decode cX9_prepareRecipes 54 = .ok (.ifCond .eq 7, 3) := by decide +kernel
theorem dX9_prepareRecipes_57 : decode cX9_prepareRecipes 57 = .ok (.iconst 0, 1) := by decide +kernel
theorem dX9_prepareRecipes_58 : decode cX9_prepareRecipes 58 = .ok (.goto 13, 3) := by decide +kernel
theorem dX9_prepareRecipes_61 : decode cX9_prepareRecipes 61 = .ok (.iconst 3, 1) := by decide +kernel
theorem dX9_prepareRecipes_62 : decode cX9_prepareRecipes 62 = .ok (.aload_n 1, 1) := by decide +kernel
theorem dX9_prepareRecipes_63 : decode cX9_prepareRecipes 63 = .ok (.getfield 134, 3) := by decide +kernel
theorem dX9_prepareRecipes_66 : decode cX9_prepareRecipes 66 = .ok (.iload_n 3, 1) := by decide +kernel
theorem dX9_prepareRecipes_67 : decode cX9_prepareRecipes 67 = .ok (.iaload, 1) := by decide +kernel
theorem dX9_prepareRecipes_68 : decode cX9_prepareRecipes 68 = .ok (.invokestatic 273, 3) := by decide +kernel
theorem dX9_prepareRecipes_71 : decode cX9_prepareRecipes 71 = .ok (.iastore, 1) := by decide +kernel
theorem dX9_prepareRecipes_72 : decode cX9_prepareRecipes 72 = .ok (.iinc 3 1, 3) := by decide +kernel
theorem dX9_prepareRecipes_75 : decode cX9_prepareRecipes 75 = .ok (.goto (-73), 3) := by decide +kernel
theorem dX9_prepareRecipes_78 : decode cX9_prepareRecipes 78 = .ok (.return_, 1) := by decide +kernel
theorem dX9_fewestFor_0 : decode cX9_fewestFor 0 = .ok (.aload_n 0, 1) := by decide +kernel
theorem dX9_fewestFor_1 : decode cX9_fewestFor 1 = .ok (.getfield 10, 3) := by decide +kernel
theorem dX9_fewestFor_4 : decode cX9_fewestFor 4 = .ok (.getfield 57, 3) := by decide +kernel
theorem dX9_fewestFor_7 : decode cX9_fewestFor 7 = .ok (.getfield 68, 3) := by decide +kernel
theorem dX9_fewestFor_10 : decode cX9_fewestFor 10 = .ok (.istore_n 2, 1) := by decide +kernel
theorem dX9_fewestFor_11 : decode cX9_fewestFor 11 = .ok (.iconst 1, 1) := by decide +kernel
theorem dX9_fewestFor_12 : decode cX9_fewestFor 12 = .ok (.iconst 2, 1) := by decide +kernel
theorem dX9_fewestFor_13 : decode cX9_fewestFor 13 = .ok (.iload_n 2, 1) := by decide +kernel
theorem dX9_fewestFor_14 : decode cX9_fewestFor 14 = .ok (.imul, 1) := by decide +kernel
theorem dX9_fewestFor_15 : decode cX9_fewestFor 15 = .ok (.ishl, 1) := by decide +kernel
theorem dX9_fewestFor_16 : decode cX9_fewestFor 16 = .ok (.istore_n 3, 1) := by decide +kernel
theorem dX9_fewestFor_17 : decode cX9_fewestFor 17 = .ok (.iconst 0, 1) := by decide +kernel
theorem dX9_fewestFor_18 : decode cX9_fewestFor 18 = .ok (.istore 4, 2) := by decide +kernel
theorem dX9_fewestFor_20 : decode cX9_fewestFor 20 = .ok (.iconst 0, 1) := by decide +kernel
theorem dX9_fewestFor_21 : decode cX9_fewestFor 21 = .ok (.istore 5, 2) := by decide +kernel
theorem dX9_fewestFor_23 : decode cX9_fewestFor 23 = .ok (.iconst 1, 1) := by decide +kernel
theorem dX9_fewestFor_24 : decode cX9_fewestFor 24 = .ok (.istore 6, 2) := by decide +kernel
theorem dX9_fewestFor_26 : decode cX9_fewestFor 26 = .ok (.iload 6, 2) := by decide +kernel
theorem dX9_fewestFor_28 : decode cX9_fewestFor 28 = .ok (.iload_n 3, 1) := by decide +kernel
theorem dX9_fewestFor_29 : decode cX9_fewestFor 29 = .ok (.if_icmp .ge 56, 3) := by decide +kernel
theorem dX9_fewestFor_32 : decode cX9_fewestFor 32 = .ok (.aload_n 0, 1) := by decide +kernel
theorem dX9_fewestFor_33 : decode cX9_fewestFor 33 = .ok (.iload 6, 2) := by decide +kernel
theorem dX9_fewestFor_35 : decode cX9_fewestFor 35 = .ok (.invokevirtual 360, 3) := by decide +kernel
theorem dX9_fewestFor_38 : decode cX9_fewestFor 38 = .ok (.istore 7, 2) := by decide +kernel
theorem dX9_fewestFor_40 : decode cX9_fewestFor 40 = .ok (.iload 7, 2) := by decide +kernel
theorem dX9_fewestFor_42 : decode cX9_fewestFor 42 = .ok (.ifCond .le 37, 3) := by decide +kernel
theorem dX9_fewestFor_45 : decode cX9_fewestFor 45 = .ok (.iload 4, 2) := by decide +kernel
theorem dX9_fewestFor_47 : decode cX9_fewestFor 47 = .ok (.ifCond .eq 10, 3) := by decide +kernel
theorem dX9_fewestFor_50 : decode cX9_fewestFor 50 = .ok (.iload 7, 2) := by decide +kernel
theorem dX9_fewestFor_52 : decode cX9_fewestFor 52 = .ok (.iload 5, 2) := by decide +kernel
theorem dX9_fewestFor_54 : decode cX9_fewestFor 54 = .ok (.if_icmp .ge 25, 3) := by decide +kernel
theorem dX9_fewestFor_57 : decode cX9_fewestFor 57 = .ok (.aload_n 0, 1) := by decide +kernel
theorem dX9_fewestFor_58 : decode cX9_fewestFor 58 = .ok (.iload 6, 2) := by decide +kernel
theorem dX9_fewestFor_60 : decode cX9_fewestFor 60 = .ok (.invokevirtual 363, 3) := by decide +kernel
theorem dX9_fewestFor_63 : decode cX9_fewestFor 63 = .ok (.iload_n 1, 1) := by decide +kernel
theorem dX9_fewestFor_64 : decode cX9_fewestFor 64 = .ok (.if_icmp .ne 15, 3) := by decide +kernel
theorem dX9_fewestFor_67 : decode cX9_fewestFor 67 = .ok (.aload_n 0, 1) := by decide +kernel
theorem dX9_fewestFor_68 : decode cX9_fewestFor 68 = .ok (.iload 6, 2) := by decide +kernel
theorem dX9_fewestFor_70 : decode cX9_fewestFor 70 = .ok (.invokevirtual 366, 3) := by decide +kernel
theorem dX9_fewestFor_73 : decode cX9_fewestFor 73 = .ok (.istore 4, 2) := by decide +kernel
theorem dX9_fewestFor_75 : decode cX9_fewestFor 75 = .ok (.iload 7, 2) := by decide +kernel
theorem dX9_fewestFor_77 : decode cX9_fewestFor 77 = .ok (.istore 5, 2) := by decide +kernel
theorem dX9_fewestFor_79 : decode cX9_fewestFor 79 = .ok (.iinc 6 1, 3) := by decide +kernel
theorem dX9_fewestFor_82 : decode cX9_fewestFor 82 = .ok (.goto (-56), 3) := by decide +kernel
theorem dX9_fewestFor_85 : decode cX9_fewestFor 85 = .ok (.iload 4, 2) := by decide +kernel
theorem dX9_fewestFor_87 : decode cX9_fewestFor 87 = .ok (.ireturn, 1) := by decide +kernel
theorem dX9_bushelsOfChoice_0 : decode cX9_bushelsOfChoice 0 = .ok (.iconst 0, 1) := by decide +kernel
theorem dX9_bushelsOfChoice_1 : decode cX9_bushelsOfChoice 1 = .ok (.istore_n 2, 1) := by decide +kernel
theorem dX9_bushelsOfChoice_2 : decode cX9_bushelsOfChoice 2 = .ok (.iconst 0, 1) := by decide +kernel
theorem dX9_bushelsOfChoice_3 : decode cX9_bushelsOfChoice 3 = .ok (.istore_n 3, 1) := by decide +kernel
theorem dX9_bushelsOfChoice_4 : decode cX9_bushelsOfChoice 4 = .ok (.iload_n 3, 1) := by decide +kernel
theorem dX9_bushelsOfChoice_5 : decode cX9_bushelsOfChoice 5 = .ok (.aload_n 0, 1) := by decide +kernel
theorem dX9_bushelsOfChoice_6 : decode cX9_bushelsOfChoice 6 = .ok (.getfield 10, 3) := by decide +kernel
theorem dX9_bushelsOfChoice_9 : decode cX9_bushelsOfChoice 9 = .ok (.getfield 57, 3) := by decide +kernel
theorem dX9_bushelsOfChoice_12 : decode cX9_bushelsOfChoice 12 = .ok (.getfield 68, 3) := by decide +kernel
theorem dX9_bushelsOfChoice_15 : decode cX9_bushelsOfChoice 15 = .ok (.if_icmp .ge 36, 3) := by decide +kernel
theorem dX9_bushelsOfChoice_18 : decode cX9_bushelsOfChoice 18 = .ok (.iload_n 1, 1) := by decide +kernel
theorem dX9_bushelsOfChoice_19 : decode cX9_bushelsOfChoice 19 = .ok (.iconst 2, 1) := by decide +kernel
theorem dX9_bushelsOfChoice_20 : decode cX9_bushelsOfChoice 20 = .ok (.iload_n 3, 1) := by decide +kernel
theorem dX9_bushelsOfChoice_21 : decode cX9_bushelsOfChoice 21 = .ok (.imul, 1) := by decide +kernel
theorem dX9_bushelsOfChoice_22 : decode cX9_bushelsOfChoice 22 = .ok (.ishr, 1) := by decide +kernel
theorem dX9_bushelsOfChoice_23 : decode cX9_bushelsOfChoice 23 = .ok (.iconst 3, 1) := by decide +kernel
theorem dX9_bushelsOfChoice_24 : decode cX9_bushelsOfChoice 24 = .ok (.iand, 1) := by decide +kernel
theorem dX9_bushelsOfChoice_25 : decode cX9_bushelsOfChoice 25 = .ok (.istore 4, 2) := by decide +kernel
theorem dX9_bushelsOfChoice_27 : decode cX9_bushelsOfChoice 27 = .ok (.iload 4, 2) := by decide +kernel
theorem dX9_bushelsOfChoice_29 : decode cX9_bushelsOfChoice 29 = .ok (.aload_n 0, 1) := by decide +kernel
theorem dX9_bushelsOfChoice_30 : decode cX9_bushelsOfChoice 30 = .ok (.getfield 53, 3) := by decide +kernel
theorem dX9_bushelsOfChoice_33 : decode cX9_bushelsOfChoice 33 = .ok (.iload_n 3, 1) := by decide +kernel
theorem dX9_bushelsOfChoice_34 : decode cX9_bushelsOfChoice 34 = .ok (.iaload, 1) := by decide +kernel
theorem dX9_bushelsOfChoice_35 : decode cX9_bushelsOfChoice 35 = .ok (.if_icmp .le 5, 3) := by decide +kernel
theorem dX9_bushelsOfChoice_38 : decode cX9_bushelsOfChoice 38 = .ok (.iconst 0, 1) := by decide +kernel
theorem dX9_bushelsOfChoice_39 : decode cX9_bushelsOfChoice 39 = .ok (.ireturn, 1) := by decide +kernel
theorem dX9_bushelsOfChoice_40 : decode cX9_bushelsOfChoice 40 = .ok (.iload_n 2, 1) := by decide +kernel
theorem dX9_bushelsOfChoice_41 : decode cX9_bushelsOfChoice 41 = .ok (.iload 4, 2) := by decide +kernel
theorem dX9_bushelsOfChoice_43 : decode cX9_bushelsOfChoice 43 = .ok (.iadd, 1) := by decide +kernel
theorem dX9_bushelsOfChoice_44 : decode cX9_bushelsOfChoice 44 = .ok (.istore_n 2, 1) := by decide +kernel
theorem dX9_bushelsOfChoice_45 : decode cX9_bushelsOfChoice 45 = .ok (.iinc 3 1, 3) := by decide +kernel
theorem dX9_bushelsOfChoice_48 : decode cX9_bushelsOfChoice 48 = .ok (.goto (-44), 3) := by decide +kernel
theorem dX9_bushelsOfChoice_51 : decode cX9_bushelsOfChoice 51 = .ok (.iload_n 2, 1) := by decide +kernel
theorem dX9_bushelsOfChoice_52 : decode cX9_bushelsOfChoice 52 = .ok (.ireturn, 1) := by decide +kernel
theorem dX9_colourOfChoice_0 : decode cX9_colourOfChoice 0 = .ok (.iconst 0, 1) := by decide +kernel
theorem dX9_colourOfChoice_1 : decode cX9_colourOfChoice 1 = .ok (.istore_n 2, 1) := by decide +kernel
theorem dX9_colourOfChoice_2 : decode cX9_colourOfChoice 2 = .ok (.iconst 0, 1) := by decide +kernel
theorem dX9_colourOfChoice_3 : decode cX9_colourOfChoice 3 = .ok (.istore_n 3, 1) := by decide +kernel
theorem dX9_colourOfChoice_4 : decode cX9_colourOfChoice 4 = .ok (.iload_n 3, 1) := by decide +kernel
theorem dX9_colourOfChoice_5 : decode cX9_colourOfChoice 5 = .ok (.aload_n 0, 1) := by decide +kernel
theorem dX9_colourOfChoice_6 : decode cX9_colourOfChoice 6 = .ok (.getfield 10, 3) := by decide +kernel
theorem dX9_colourOfChoice_9 : decode cX9_colourOfChoice 9 = .ok (.getfield 57, 3) := by decide +kernel
theorem dX9_colourOfChoice_12 : decode cX9_colourOfChoice 12 = .ok (.getfield 68, 3) := by decide +kernel
theorem dX9_colourOfChoice_15 : decode cX9_colourOfChoice 15 = .ok (.if_icmp .ge 26, 3) := by decide +kernel
theorem dX9_colourOfChoice_18 : decode cX9_colourOfChoice 18 = .ok (.iload_n 2, 1) := by decide +kernel
theorem dX9_colourOfChoice_19 : decode cX9_colourOfChoice 19 = .ok (.iload_n 1, 1) := by decide +kernel
theorem dX9_colourOfChoice_20 : decode cX9_colourOfChoice 20 = .ok (.iconst 2, 1) := by decide +kernel
theorem dX9_colourOfChoice_21 : decode cX9_colourOfChoice 21 = .ok (.iload_n 3, 1) := by decide +kernel
theorem dX9_colourOfChoice_22 : decode cX9_colourOfChoice 22 = .ok (.imul, 1) := by decide +kernel
theorem dX9_colourOfChoice_23 : decode cX9_colourOfChoice 23 = .ok (.ishr, 1) := by decide +kernel
theorem dX9_colourOfChoice_24 : decode cX9_colourOfChoice 24 = .ok (.iconst 3, 1) := by decide +kernel
theorem dX9_colourOfChoice_25 : decode cX9_colourOfChoice 25 = .ok (.iand, 1) := by decide +kernel
theorem dX9_colourOfChoice_26 : decode cX9_colourOfChoice 26 = .ok (.aload_n 0, 1) := by decide +kernel
theorem dX9_colourOfChoice_27 : decode cX9_colourOfChoice 27 = .ok (.getfield 50, 3) := by decide +kernel
theorem dX9_colourOfChoice_30 : decode cX9_colourOfChoice 30 = .ok (.iload_n 3, 1) := by decide +kernel
theorem dX9_colourOfChoice_31 : decode cX9_colourOfChoice 31 = .ok (.iaload, 1) := by decide +kernel
theorem dX9_colourOfChoice_32 : decode cX9_colourOfChoice 32 = .ok (.imul, 1) := by decide +kernel
theorem dX9_colourOfChoice_33 : decode cX9_colourOfChoice 33 = .ok (.iadd, 1) := by decide +kernel
theorem dX9_colourOfChoice_34 : decode cX9_colourOfChoice 34 = .ok (.istore_n 2, 1) := by decide +kernel
theorem dX9_colourOfChoice_35 : decode cX9_colourOfChoice 35 = .ok (.iinc 3 1, 3) := by decide +kernel
theorem dX9_colourOfChoice_38 : decode cX9_colourOfChoice 38 = .ok (.goto (-34), 3) := by decide +kernel
theorem dX9_colourOfChoice_41 : decode cX9_colourOfChoice 41 = .ok (.iload_n 2, 1) := by decide +kernel
theorem dX9_colourOfChoice_42 : decode cX9_colourOfChoice 42 = .ok (.invokestatic 357, 3) := by decide +kernel
theorem dX9_colourOfChoice_45 : decode cX9_colourOfChoice 45 = .ok (.ireturn, 1) := by decide +kernel
theorem dX9_mixOfChoice_0 : decode cX9_mixOfChoice 0 = .ok (.iconst 0, 1) := by decide +kernel
theorem dX9_mixOfChoice_1 : decode cX9_mixOfChoice 1 = .ok (.istore_n 2, 1) := by decide +kernel
theorem dX9_mixOfChoice_2 : decode cX9_mixOfChoice 2 = .ok (.iconst 0, 1) := by decide +kernel
theorem dX9_mixOfChoice_3 : decode cX9_mixOfChoice 3 = .ok (.istore_n 3, 1) := by decide +kernel
theorem dX9_mixOfChoice_4 : decode cX9_mixOfChoice 4 = .ok (.iload_n 3, 1) := by decide +kernel
theorem dX9_mixOfChoice_5 : decode cX9_mixOfChoice 5 = .ok (.aload_n 0, 1) := by decide +kernel
theorem dX9_mixOfChoice_6 : decode cX9_mixOfChoice 6 = .ok (.getfield 10, 3) := by decide +kernel
theorem dX9_mixOfChoice_9 : decode cX9_mixOfChoice 9 = .ok (.getfield 57, 3) := by decide +kernel
theorem dX9_mixOfChoice_12 : decode cX9_mixOfChoice 12 = .ok (.getfield 68, 3) := by decide +kernel
theorem dX9_mixOfChoice_15 : decode cX9_mixOfChoice 15 = .ok (.if_icmp .ge 25, 3) := by decide +kernel
theorem dX9_mixOfChoice_18 : decode cX9_mixOfChoice 18 = .ok (.iload_n 2, 1) := by decide +kernel
theorem dX9_mixOfChoice_19 : decode cX9_mixOfChoice 19 = .ok (.iload_n 1, 1) := by decide +kernel
theorem dX9_mixOfChoice_20 : decode cX9_mixOfChoice 20 = .ok (.iconst 2, 1) := by decide +kernel
theorem dX9_mixOfChoice_21 : decode cX9_mixOfChoice 21 = .ok (.iload_n 3, 1) := by decide +kernel
theorem dX9_mixOfChoice_22 : decode cX9_mixOfChoice 22 = .ok (.imul, 1) := by decide +kernel
theorem dX9_mixOfChoice_23 : decode cX9_mixOfChoice 23 = .ok (.ishr, 1) := by decide +kernel
theorem dX9_mixOfChoice_24 : decode cX9_mixOfChoice 24 = .ok (.iconst 3, 1) := by decide +kernel
theorem dX9_mixOfChoice_25 : decode cX9_mixOfChoice 25 = .ok (.iand, 1) := by decide +kernel
theorem dX9_mixOfChoice_26 : decode cX9_mixOfChoice 26 = .ok (.getstatic 340, 3) := by decide +kernel
theorem dX9_mixOfChoice_29 : decode cX9_mixOfChoice 29 = .ok (.iload_n 3, 1) := by decide +kernel
theorem dX9_mixOfChoice_30 : decode cX9_mixOfChoice 30 = .ok (.iaload, 1) := by decide +kernel
theorem dX9_mixOfChoice_31 : decode cX9_mixOfChoice 31 = .ok (.imul, 1) := by decide +kernel
theorem dX9_mixOfChoice_32 : decode cX9_mixOfChoice 32 = .ok (.iadd, 1) := by decide +kernel
theorem dX9_mixOfChoice_33 : decode cX9_mixOfChoice 33 = .ok (.istore_n 2, 1) := by decide +kernel
theorem dX9_mixOfChoice_34 : decode cX9_mixOfChoice 34 = .ok (.iinc 3 1, 3) := by decide +kernel
theorem dX9_mixOfChoice_37 : decode cX9_mixOfChoice 37 = .ok (.goto (-33), 3) := by decide +kernel
theorem dX9_mixOfChoice_40 : decode cX9_mixOfChoice 40 = .ok (.iload_n 2, 1) := by decide +kernel
theorem dX9_mixOfChoice_41 : decode cX9_mixOfChoice 41 = .ok (.ireturn, 1) := by decide +kernel
theorem dX10_init_0 : decode cX10_init 0 = .ok (.aload_n 0, 1) := by decide +kernel
theorem dX10_init_1 : decode cX10_init 1 = .ok (.invokespecial 3, 3) := by decide +kernel
theorem dX10_init_4 : decode cX10_init 4 = .ok (.aload_n 0, 1) := by decide +kernel
theorem dX10_init_5 : decode cX10_init 5 = .ok (.sipush 279, 3) := by decide +kernel
theorem dX10_init_8 : decode cX10_init 8 = .ok (.newarray .int, 2) := by decide +kernel
theorem dX10_init_10 : decode cX10_init 10 = .ok (.putfield 9, 3) := by decide +kernel
theorem dX10_init_13 : decode cX10_init 13 = .ok (.aload_n 0, 1) := by decide +kernel
theorem dX10_init_14 : decode cX10_init 14 = .ok (.sipush 279, 3) := by decide +kernel
theorem dX10_init_17 : decode cX10_init 17 = .ok (.newarray .int, 2) := by decide +kernel
theorem dX10_init_19 : decode cX10_init 19 = .ok (.putfield 13, 3) := by decide +kernel
theorem dX10_init_22 : decode cX10_init 22 = .ok (.aload_n 0, 1) := by decide +kernel
theorem dX10_init_23 : decode cX10_init 23 = .ok (.sipush 279, 3) := by decide +kernel
theorem dX10_init_26 : decode cX10_init 26 = .ok (.newarray .int, 2) := by decide +kernel
theorem dX10_init_28 : decode cX10_init 28 = .ok (.putfield 16, 3) := by decide +kernel
theorem dX10_init_31 : decode cX10_init 31 = .ok (.aload_n 0, 1) := by decide +kernel
theorem dX10_init_32 : decode cX10_init 32 = .ok (.bipush 6, 2) := by decide +kernel
theorem dX10_init_34 : decode cX10_init 34 = .ok (.newarray .int, 2) := by decide +kernel
theorem dX10_init_36 : decode cX10_init 36 = .ok (.putfield 19, 3) := by decide +kernel
theorem dX10_init_39 : decode cX10_init 39 = .ok (.aload_n 0, 1) := by decide +kernel
theorem dX10_init_40 : decode cX10_init 40 = .ok (.iconst 2, 1) := by decide +kernel
theorem dX10_init_41 : decode cX10_init 41 = .ok (.anewarray 22, 3) := by decide +kernel
theorem dX10_init_44 : decode cX10_init 44 = .ok (.dup, 1) := by decide +kernel
theorem dX10_init_45 : decode cX10_init 45 = .ok (.iconst 0, 1) := by decide +kernel
theorem dX10_init_46 : decode cX10_init 46 = .ok (.ldc 24, 2) := by decide +kernel
theorem dX10_init_48 : decode cX10_init 48 = .ok (.aastore, 1) := by decide +kernel
theorem dX10_init_49 : decode cX10_init 49 = .ok (.dup, 1) := by decide +kernel
theorem dX10_init_50 : decode cX10_init 50 = .ok (.iconst 1, 1) := by decide +kernel
theorem dX10_init_51 : decode cX10_init 51 = .ok (.ldc 26, 2) := by decide +kernel
theorem dX10_init_53 : decode cX10_init 53 = .ok (.aastore, 1) := by decide +kernel
theorem dX10_init_54 : decode cX10_init 54 = .ok (.putfield 28, 3) := by decide +kernel
theorem dX10_init_57 : decode cX10_init 57 = .ok (.aload_n 0, 1) := by decide +kernel
theorem dX10_init_58 : decode cX10_init 58 = .ok (.bipush 60, 2) := by decide +kernel
theorem dX10_init_60 : decode cX10_init 60 = .ok (.newarray .int, 2) := by decide +kernel
theorem dX10_init_62 : decode cX10_init 62 = .ok (.putfield 32, 3) := by decide +kernel
theorem dX10_init_65 : decode cX10_init 65 = .ok (.aload_n 0, 1) := by decide +kernel
theorem dX10_init_66 : decode cX10_init 66 = .ok (.iconst 4, 1) := by decide +kernel
theorem dX10_init_67 : decode cX10_init 67 = .ok (.newarray .int, 2) := by decide +kernel
theorem dX10_init_69 : decode cX10_init 69 = .ok (.putfield 35, 3) := by decide +kernel
theorem dX10_init_72 : decode cX10_init 72 = .ok (.aload_n 0, 1) := by decide +kernel
theorem dX10_init_73 : decode cX10_init 73 = .ok (.bipush 60, 2) := by decide +kernel
theorem dX10_init_75 : decode cX10_init 75 = .ok (.newarray .int, 2) := by decide +kernel
theorem dX10_init_77 : decode cX10_init 77 = .ok (.putfield 38, 3) := by decide +kernel
theorem dX10_init_80 : decode cX10_init 80 = .ok (.aload_n 0, 1) := by decide +kernel
theorem dX10_init_81 : decode cX10_init 81 = .ok (.bipush 40, 2) := by decide +kernel
theorem dX10_init_83 : decode cX10_init 83 = .ok (.newarray .int, 2) := by decide +kernel
theorem dX10_init_85 : decode cX10_init 85 = .ok (.putfield 41, 3) := by decide +kernel
theorem dX10_init_88 : decode cX10_init 88 = .ok (.aload_n 0, 1) := by decide +kernel
theorem dX10_init_89 : decode cX10_init 89 = .ok (.iconst 4, 1) := by decide +kernel
theorem dX10_init_90 : decode cX10_init 90 = .ok (.newarray .int, 2) := by decide +kernel
theorem dX10_init_92 : decode cX10_init 92 = .ok (.putfield 44, 3) := by decide +kernel
theorem dX10_init_95 : decode cX10_init 95 = .ok (.aload_n 0, 1) := by decide +kernel
theorem dX10_init_96 : decode cX10_init 96 = .ok (.iconst 4, 1) := by decide +kernel
theorem dX10_init_97 : decode cX10_init 97 = .ok (.newarray .int, 2) := by decide +kernel
theorem dX10_init_99 : decode cX10_init 99 = .ok (.putfield 47, 3) := by decide +kernel
theorem dX10_init_102 : decode cX10_init 102 = .ok (.aload_n 0, 1) := by decide +kernel
theorem dX10_init_103 : decode cX10_init 103 = .ok (.sipush 160, 3) := by decide +kernel
theorem dX10_init_106 : decode cX10_init 106 = .ok (.newarray .int, 2) := by decide +kernel
theorem dX10_init_108 : decode cX10_init 108 = .ok (.putfield 50, 3) := by decide +kernel
theorem dX10_init_111 : decode cX10_init 111 = .ok (.aload_n 0, 1) := by decide +kernel
theorem dX10_init_112 : decode cX10_init 112 = .ok (.bipush 40, 2) := by decide +kernel
theorem dX10_init_114 : decode cX10_init 114 = .ok (.newarray .int, 2) := by decide +kernel
theorem dX10_init_116 : decode cX10_init 116 = .ok (.putfield 53, 3) := by decide +kernel
theorem dX10_init_119 : decode cX10_init 119 = .ok (.aload_n 0, 1) := by decide +kernel
theorem dX10_init_120 : decode cX10_init 120 = .ok (.getfield 9, 3) := by decide +kernel
theorem dX10_init_123 : decode cX10_init 123 = .ok (.iconst 4, 1) := by decide +kernel
theorem dX10_init_124 : decode cX10_init 124 = .ok (.iconst 1, 1) := by decide +kernel
theorem dX10_init_125 : decode cX10_init 125 = .ok (.iastore, 1) := by decide +kernel
theorem dX10_init_126 : decode cX10_init 126 = .ok (.return_, 1) := by decide +kernel
theorem dX10_finding_0 : decode cX10_finding 0 = .ok (.aload_n 0, 1) := by decide +kernel
theorem dX10_finding_1 : decode cX10_finding 1 = .ok (.getfield 19, 3) := by decide +kernel
theorem dX10_finding_4 : decode cX10_finding 4 = .ok (.ldc 56, 2) := by decide +kernel
theorem dX10_finding_6 : decode cX10_finding 6 = .ok (.iload_n 1, 1) := by decide +kernel
theorem dX10_finding_7 : decode cX10_finding 7 = .ok (.isub, 1) := by decide +kernel
theorem dX10_finding_8 : decode cX10_finding 8 = .ok (.dup2, 1) := by decide +kernel
theorem dX10_finding_9 : decode cX10_finding 9 = .ok (.iaload, 1) := by decide +kernel
theorem dX10_finding_10 : decode cX10_finding 10 = .ok (.iconst 1, 1) := by decide +kernel
theorem dX10_finding_11 : decode cX10_finding 11 = .ok (.iadd, 1) := by decide +kernel
theorem dX10_finding_12 : decode cX10_finding 12 = .ok (.iastore, 1) := by decide +kernel
theorem dX10_finding_13 : decode cX10_finding 13 = .ok (.iload_n 1, 1) := by decide +kernel
theorem dX10_finding_14 : decode cX10_finding 14 = .ok (.ireturn, 1) := by decide +kernel
theorem dX10_within_0 : decode cX10_within 0 = .ok (.iload_n 0, 1) := by decide +kernel
theorem dX10_within_1 : decode cX10_within 1 = .ok (.iload_n 1, 1) := by decide +kernel
theorem dX10_within_2 : decode cX10_within 2 = .ok (.if_icmp .lt 12, 3) := by decide +kernel
theorem dX10_within_5 : decode cX10_within 5 = .ok (.iload_n 0, 1) := by decide +kernel
theorem dX10_within_6 : decode cX10_within 6 = .ok (.iload_n 2, 1) := by decide +kernel
theorem dX10_within_7 : decode cX10_within 7 = .ok (.if_icmp .gt 7, 3) := by decide +kernel
theorem dX10_within_10 : decode cX10_within 10 = .ok (.iconst 1, 1) := by decide +kernel
theorem dX10_within_11 : decode cX10_within 11 = .ok (.goto 4, 3) := by decide +kernel
theorem dX10_within_14 : decode cX10_within 14 = .ok (.iconst 0, 1) := by decide +kernel
theorem dX10_within_15 : decode cX10_within 15 = .ok (.ireturn, 1) := by decide +kernel
theorem dX10_held_0 : decode cX10_held 0 = .ok (.iload_n 1, 1) := by decide +kernel
theorem dX10_held_1 : decode cX10_held 1 = .ok (.iload_n 2, 1) := by decide +kernel
theorem dX10_held_2 : decode cX10_held 2 = .ok (.iload_n 0, 1) := by decide +kernel
theorem dX10_held_3 : decode cX10_held 3 = .ok (.invokestatic 57, 3) := by decide +kernel
theorem dX10_held_6 : decode cX10_held 6 = .ok (.invokestatic 63, 3) := by decide +kernel
theorem dX10_held_9 : decode cX10_held 9 = .ok (.ireturn, 1) := by decide +kernel
theorem dX10_copy_0 : decode cX10_copy 0 = .ok (.iconst 0, 1) := by decide +kernel
theorem dX10_copy_1 : decode cX10_copy 1 = .ok (.istore_n 2, 1) := by decide +kernel
theorem dX10_copy_2 : decode cX10_copy 2 = .ok (.iload_n 2, 1) := by decide +kernel
theorem dX10_copy_3 : decode cX10_copy 3 = .ok (.sipush 279, 3) := by decide +kernel
theorem dX10_copy_6 : decode cX10_copy 6 = .ok (.if_icmp .ge 15, 3) := by decide +kernel
theorem dX10_copy_9 : decode cX10_copy 9 = .ok (.aload_n 1, 1) := by decide +kernel
theorem dX10_copy_10 : decode cX10_copy 10 = .ok (.iload_n 2, 1) := by decide +kernel
theorem dX10_copy_11 : decode cX10_copy 11 = .ok (.aload_n 0, 1) := by decide +kernel
theorem dX10_copy_12 : decode cX10_copy 12 = .ok (.iload_n 2, 1) := by decide +kernel
theorem dX10_copy_13 : decode cX10_copy 13 = .ok (.iaload, 1) := by decide +kernel
theorem dX10_copy_14 : decode cX10_copy 14 = .ok (.iastore, 1) := by decide +kernel
theorem dX10_copy_15 : decode cX10_copy 15 = .ok (.iinc 2 1, 3) := by decide +kernel
theorem dX10_copy_18 : decode cX10_copy 18 = .ok (.goto (-16), 3) := by decide +kernel
theorem dX10_copy_21 : decode cX10_copy 21 = .ok (.return_, 1) := by decide +kernel
theorem dX10_turn_0 : decode cX10_turn 0 = .ok (.aload_n 0, 1) := by decide +kernel
theorem dX10_turn_1 : decode cX10_turn 1 = .ok (.getfield 9, 3) := by decide +kernel
theorem dX10_turn_4 : decode cX10_turn 4 = .ok (.iload_n 1, 1) := by decide +kernel
theorem dX10_turn_5 : decode cX10_turn 5 = .ok (.iaload, 1) := by decide +kernel
theorem dX10_turn_6 : decode cX10_turn 6 = .ok (.istore_n 3, 1) := by decide +kernel
theorem dX10_turn_7 : decode cX10_turn 7 = .ok (.aload_n 0, 1) := by decide +kernel
theorem dX10_turn_8 : decode cX10_turn 8 = .ok (.getfield 9, 3) := by decide +kernel
theorem dX10_turn_11 : decode cX10_turn 11 = .ok (.iload_n 1, 1) := by decide +kernel
theorem dX10_turn_12 : decode cX10_turn 12 = .ok (.iload_n 2, 1) := by decide +kernel
theorem dX10_turn_13 : decode cX10_turn 13 = .ok (.iastore, 1) := by decide +kernel
theorem dX10_turn_14 : decode cX10_turn 14 = .ok (.iload_n 3, 1) := by decide +kernel
theorem dX10_turn_15 : decode cX10_turn 15 = .ok (.ireturn, 1) := by decide +kernel
theorem dX10_putBack_0 : decode cX10_putBack 0 = .ok (.aload_n 0, 1) := by decide +kernel
theorem dX10_putBack_1 : decode cX10_putBack 1 = .ok (.getfield 16, 3) := by decide +kernel
theorem dX10_putBack_4 : decode cX10_putBack 4 = .ok (.aload_n 0, 1) := by decide +kernel
theorem dX10_putBack_5 : decode cX10_putBack 5 = .ok (.getfield 9, 3) := by decide +kernel
theorem dX10_putBack_8 : decode cX10_putBack 8 = .ok (.invokestatic 66, 3) := by decide +kernel
theorem dX10_putBack_11 : decode cX10_putBack 11 = .ok (.iload_n 1, 1) := by decide +kernel
theorem dX10_putBack_12 : decode cX10_putBack 12 = .ok (.ireturn, 1) := by decide +kernel
theorem dX10_feed_0 : decode cX10_feed 0 = .ok (.iload_n 3, 1) := by decide +kernel
theorem dX10_feed_1 : decode cX10_feed 1 = .ok (.iconst 1, 1) := by decide +kernel
theorem dX10_feed_2 : decode cX10_feed 2 = .ok (.bipush 8, 2) := by decide +kernel
theorem dX10_feed_4 : decode cX10_feed 4 = .ok (.invokestatic 70, 3) := by decide +kernel
theorem dX10_feed_7 : decode cX10_feed 7 = .ok (.ifCond .ne 10, 3) := by decide +kernel
theorem dX10_feed_10 : decode cX10_feed 10 = .ok (.aload_n 0, 1) := by decide +kernel
theorem dX10_feed_11 : decode cX10_feed 11 = .ok (.ldc 74, 2) := by decide +kernel
theorem dX10_feed_13 : decode cX10_feed 13 = .ok (.invokevirtual 75, 3) := by decide +kernel
theorem dX10_feed_16 : decode cX10_feed 16 = .ok (.ireturn, 1) := by decide +kernel
theorem dX10_feed_17 : decode cX10_feed 17 = .ok (.aload_n 0, 1) := by decide +kernel
theorem dX10_feed_18 : decode cX10_feed 18 = .ok (.getfield 9, 3) := by decide +kernel
theorem dX10_feed_21 : decode cX10_feed 21 = .ok (.iconst 5, 1) := by decide +kernel
theorem dX10_feed_22 : decode cX10_feed 22 = .ok (.iaload, 1) := by decide +kernel
theorem dX10_feed_23 : decode cX10_feed 23 = .ok (.iload_n 3, 1) := by decide +kernel
theorem dX10_feed_24 : decode cX10_feed 24 = .ok (.iadd, 1) := by decide +kernel
theorem dX10_feed_25 : decode cX10_feed 25 = .ok (.bipush 50, 2) := by decide +kernel
theorem dX10_feed_27 : decode cX10_feed 27 = .ok (.if_icmp .le 10, 3) := by decide +kernel
theorem dX10_feed_30 : decode cX10_feed 30 = .ok (.aload_n 0, 1) := by decide +kernel
theorem dX10_feed_31 : decode cX10_feed 31 = .ok (.ldc 79, 2) := by decide +kernel
theorem dX10_feed_33 : decode cX10_feed 33 = .ok (.invokevirtual 75, 3) := by decide +kernel
theorem dX10_feed_36 : decode cX10_feed 36 = .ok (.ireturn, 1) := by decide +kernel
theorem dX10_feed_37 : decode cX10_feed 37 = .ok (.iconst 0, 1) := by decide +kernel
theorem dX10_feed_38 : decode cX10_feed 38 = .ok (.istore 4, 2) := by decide +kernel
theorem dX10_feed_40 : decode cX10_feed 40 = .ok (.iload 4, 2) := by decide +kernel
theorem dX10_feed_42 : decode cX10_feed 42 = .ok (.iload_n 3, 1) := by decide +kernel
theorem dX10_feed_43 : decode cX10_feed 43 = .ok (.if_icmp .ge 45, 3) := by decide +kernel
theorem dX10_feed_46 : decode cX10_feed 46 = .ok (.aload_n 0, 1) := by decide +kernel
theorem dX10_feed_47 : decode cX10_feed 47 = .ok (.getfield 9, 3) := by decide +kernel
theorem dX10_feed_50 : decode cX10_feed 50 = .ok (.bipush 105, 2) := by decide +kernel
theorem dX10_feed_52 : decode cX10_feed 52 = .ok (.aload_n 0, 1) := by decide +kernel
theorem dX10_feed_53 : decode cX10_feed 53 = .ok (.getfield 9, 3) := by decide +kernel
theorem dX10_feed_56 : decode cX10_feed 56 = .ok (.iconst 5, 1) := by decide +kernel
theorem dX10_feed_57 : decode cX10_feed 57 = .ok (.iaload, 1) := by decide +kernel
theorem dX10_feed_58 : decode cX10_feed 58 = .ok (.iadd, 1) := by decide +kernel
theorem dX10_feed_59 : decode cX10_feed 59 = .ok (.lload_n 1, 1) := by decide +kernel
theorem dX10_feed_60 : decode cX10_feed 60 = .ok (.bipush 8, 2) := by decide +kernel
theorem dX10_feed_62 : decode cX10_feed 62 = .ok (.iload 4, 2) := by decide +kernel
theorem dX10_feed_64 : decode cX10_feed 64 = .ok (.imul, 1) := by decide +kernel
theorem dX10_feed_65 : decode cX10_feed 65 = .ok (.lshr, 1) := by decide +kernel
theorem dX10_feed_66 : decode cX10_feed 66 = .ok (.ldc2_w 80, 3) := by decide +kernel
theorem dX10_feed_69 : decode cX10_feed 69 = .ok (.land, 1) := by decide +kernel
theorem dX10_feed_70 : decode cX10_feed 70 = .ok (.l2i, 1) := by decide +kernel
theorem dX10_feed_71 : decode cX10_feed 71 = .ok (.iastore, 1) := by decide +kernel
theorem dX10_feed_72 : decode cX10_feed 72 = .ok (.aload_n 0, 1) := by decide +kernel
theorem dX10_feed_73 : decode cX10_feed 73 = .ok (.getfield 9, 3) := by decide +kernel
theorem dX10_feed_76 : decode cX10_feed 76 = .ok (.iconst 5, 1) := by decide +kernel
theorem dX10_feed_77 : decode cX10_feed 77 = .ok (.dup2, 1) := by decide +kernel
theorem dX10_feed_78 : decode cX10_feed 78 = .ok (.iaload, 1) := by decide +kernel
theorem dX10_feed_79 : decode cX10_feed 79 = .ok (.iconst 1, 1) := by decide +kernel
theorem dX10_feed_80 : decode cX10_feed 80 = .ok (.iadd, 1) := by decide +kernel
theorem dX10_feed_81 : decode cX10_feed 81 = .ok (.iastore, 1) := by decide +kernel
theorem dX10_feed_82 : decode cX10_feed 82 = .ok (.iinc 4 1, 3) := by decide +kernel
theorem dX10_feed_85 : decode cX10_feed 85 = .ok (.goto (-45), 3) := by decide +kernel
theorem dX10_feed_88 : decode cX10_feed 88 = .ok (.aload_n 0, 1) := by decide +kernel
theorem dX10_feed_89 : decode cX10_feed 89 = .ok (.getfield 9, 3) := by decide +kernel
theorem dX10_feed_92 : decode cX10_feed 92 = .ok (.iconst 5, 1) := by decide +kernel
theorem dX10_feed_93 : decode cX10_feed 93 = .ok (.iaload, 1) := by decide +kernel
theorem dX10_feed_94 : decode cX10_feed 94 = .ok (.ireturn, 1) := by decide +kernel
theorem dX10_here_0 : decode cX10_here 0 = .ok (.aload_n 0, 1) := by decide +kernel
theorem dX10_here_1 : decode cX10_here 1 = .ok (.getfield 82, 3) := by decide +kernel
theorem dX10_here_4 : decode cX10_here 4 = .ok (.ifCond .ne 31, 3) := by decide +kernel
theorem dX10_here_7 : decode cX10_here 7 = .ok (.aload_n 0, 1) := by decide +kernel
theorem dX10_here_8 : decode cX10_here 8 = .ok (.getfield 86, 3) := by decide +kernel
theorem dX10_here_11 : decode cX10_here 11 = .ok (.aload_n 0, 1) := by decide +kernel
theorem dX10_here_12 : decode cX10_here 12 = .ok (.getfield 9, 3) := by decide +kernel
theorem dX10_here_15 : decode cX10_here 15 = .ok (.iconst 5, 1) := by decide +kernel
theorem dX10_here_16 : decode cX10_here 16 = .ok (.iaload, 1) := by decide +kernel
theorem dX10_here_17 : decode cX10_here 17 = .ok (.if_icmp .ge 18, 3) := by decide +kernel
theorem dX10_here_20 : decode cX10_here 20 = .ok (.aload_n 0, 1) := by decide +kernel
theorem dX10_here_21 : decode cX10_here 21 = .ok (.getfield 9, 3) := by decide +kernel
theorem dX10_here_24 : decode cX10_here 24 = .ok (.bipush 105, 2) := by decide +kernel
theorem dX10_here_26 : decode cX10_here 26 = .ok (.aload_n 0, 1) := by decide +kernel
theorem dX10_here_27 : decode cX10_here 27 = .ok (.getfield 86, 3) := by decide +kernel
theorem dX10_here_30 : decode cX10_here 30 = .ok (.iadd, 1) := by decide +kernel
theorem dX10_here_31 : decode cX10_here 31 = .ok (.iaload, 1) := by decide +kernel
theorem dX10_here_32 : decode cX10_here 32 = .ok (.goto 4, 3) := by decide +kernel
theorem dX10_here_35 : decode cX10_here 35 = .ok (.iconst (-1), 1) := by decide +kernel
theorem dX10_here_36 : decode cX10_here 36 = .ok (.ireturn, 1) := by decide +kernel
theorem dX10_takes_0 : decode cX10_takes 0 = .ok (.aload_n 0, 1) := by decide +kernel
theorem dX10_takes_1 : decode cX10_takes 1 = .ok (.invokevirtual 90, 3) := by decide +kernel
theorem dX10_takes_4 : decode cX10_takes 4 = .ok (.iload_n 1, 1) := by decide +kernel
theorem dX10_takes_5 : decode cX10_takes 5 = .ok (.if_icmp .ne 7, 3) := by decide +kernel
theorem dX10_takes_8 : decode cX10_takes 8 = .ok (.iconst 1, 1) := by decide +kernel
theorem dX10_takes_9 : decode cX10_takes 9 = .ok (.goto 4, 3) := by decide +kernel
theorem dX10_takes_12 : decode cX10_takes 12 = .ok (.iconst 0, 1) := by decide +kernel
theorem dX10_takes_13 : decode cX10_takes 13 = .ok (.istore_n 2, 1) := by decide +kernel
theorem dX10_takes_14 : decode cX10_takes 14 = .ok (.aload_n 0, 1) := by decide +kernel
theorem dX10_takes_15 : decode cX10_takes 15 = .ok (.dup, 1) := by decide +kernel
theorem dX10_takes_16 : decode cX10_takes 16 = .ok (.getfield 86, 3) := by decide +kernel
theorem dX10_takes_19 : decode cX10_takes 19 = .ok (.iload_n 2, 1) := by decide +kernel
theorem dX10_takes_20 : decode cX10_takes 20 = .ok (.ifCond .eq 7, 3) := by decide +kernel
theorem dX10_takes_23 : decode cX10_takes 23 = .ok (.iconst 1, 1) := by decide +kernel
theorem dX10_takes_24 : decode cX10_takes 24 = .ok (.goto 4, 3) := by decide +kernel
theorem dX10_takes_27 : decode cX10_takes 27 = .ok (.iconst 0, 1) := by decide +kernel
theorem dX10_takes_28 : decode cX10_takes 28 = .ok (.iadd, 1) := by decide +kernel
theorem dX10_takes_29 : decode cX10_takes 29 = .ok (.putfield 86, 3) := by decide +kernel
theorem dX10_takes_32 : decode cX10_takes 32 = .ok (.iload_n 2, 1) := by decide +kernel
theorem dX10_takes_33 : decode cX10_takes 33 = .ok (.ireturn, 1) := by decide +kernel
theorem dX10_codes_0 : decode cX10_codes 0 = .ok (.aload_n 0, 1) := by decide +kernel
theorem dX10_codes_1 : decode cX10_codes 1 = .ok (.getfield 82, 3) := by decide +kernel
theorem dX10_codes_4 : decode cX10_codes 4 = .ok (.ifCond .ne 23, 3) := by decide +kernel
theorem dX10_codes_7 : decode cX10_codes 7 = .ok (.aload_n 0, 1) := by decide +kernel
theorem dX10_codes_8 : decode cX10_codes 8 = .ok (.getfield 32, 3) := by decide +kernel
theorem dX10_codes_11 : decode cX10_codes 11 = .ok (.aload_n 0, 1) := by decide +kernel
theorem dX10_codes_12 : decode cX10_codes 12 = .ok (.getfield 94, 3) := by decide +kernel
theorem dX10_codes_15 : decode cX10_codes 15 = .ok (.iload_n 1, 1) := by decide +kernel
theorem dX10_codes_16 : decode cX10_codes 16 = .ok (.iastore, 1) := by decide +kernel
theorem dX10_codes_17 : decode cX10_codes 17 = .ok (.aload_n 0, 1) := by decide +kernel
theorem dX10_codes_18 : decode cX10_codes 18 = .ok (.dup, 1) := by decide +kernel
theorem dX10_codes_19 : decode cX10_codes 19 = .ok (.getfield 94, 3) := by decide +kernel
theorem dX10_codes_22 : decode cX10_codes 22 = .ok (.iconst 1, 1) := by decide +kernel
theorem dX10_codes_23 : decode cX10_codes 23 = .ok (.iadd, 1) := by decide +kernel
theorem dX10_codes_24 : decode cX10_codes 24 = .ok (.putfield 94, 3) := by decide +kernel
theorem dX10_codes_27 : decode cX10_codes 27 = .ok (.return_, 1) := by decide +kernel
theorem dX10_either_0 : decode cX10_either 0 = .ok (.aload_n 0, 1) := by decide +kernel
theorem dX10_either_1 : decode cX10_either 1 = .ok (.invokevirtual 97, 3) := by decide +kernel
theorem dX10_either_4 : decode cX10_either 4 = .ok (.aload_n 0, 1) := by decide +kernel
theorem dX10_either_5 : decode cX10_either 5 = .ok (.bipush 124, 2) := by decide +kernel
theorem dX10_either_7 : decode cX10_either 7 = .ok (.invokevirtual 100, 3) := by decide +kernel
theorem dX10_either_10 : decode cX10_either 10 = .ok (.ifCond .eq 17, 3) := by decide +kernel
theorem dX10_either_13 : decode cX10_either 13 = .ok (.aload_n 0, 1) := by decide +kernel
theorem dX10_either_14 : decode cX10_either 14 = .ok (.invokevirtual 97, 3) := by decide +kernel
theorem dX10_either_17 : decode cX10_either 17 = .ok (.aload_n 0, 1) := by decide +kernel
theorem dX10_either_18 : decode cX10_either 18 = .ok (.sipush 20000, 3) := by decide +kernel
theorem dX10_either_21 : decode cX10_either 21 = .ok (.invokevirtual 104, 3) := by decide +kernel
theorem dX10_either_24 : decode cX10_either 24 = .ok (.goto (-20), 3) := by decide +kernel
theorem dX10_either_27 : decode cX10_either 27 = .ok (.return_, 1) := by decide +kernel
theorem dX10_both_0 : decode cX10_both 0 = .ok (.aload_n 0, 1) := by decide +kernel
theorem dX10_both_1 : decode cX10_both 1 = .ok (.invokevirtual 108, 3) := by decide +kernel
theorem dX10_both_4 : decode cX10_both 4 = .ok (.aload_n 0, 1) := by decide +kernel
theorem dX10_both_5 : decode cX10_both 5 = .ok (.bipush 38, 2) := by decide +kernel
theorem dX10_both_7 : decode cX10_both 7 = .ok (.invokevirtual 100, 3) := by decide +kernel
theorem dX10_both_10 : decode cX10_both 10 = .ok (.ifCond .eq 17, 3) := by decide +kernel
theorem dX10_both_13 : decode cX10_both 13 = .ok (.aload_n 0, 1) := by decide +kernel
theorem dX10_both_14 : decode cX10_both 14 = .ok (.invokevirtual 108, 3) := by decide +kernel
theorem dX10_both_17 : decode cX10_both 17 = .ok (.aload_n 0, 1) := by decide +kernel
theorem dX10_both_18 : decode cX10_both 18 = .ok (.sipush 20001, 3) := by decide +kernel
theorem dX10_both_21 : decode cX10_both 21 = .ok (.invokevirtual 104, 3) := by decide +kernel
theorem dX10_both_24 : decode cX10_both 24 = .ok (.goto (-20), 3) := by decide +kernel
theorem dX10_both_27 : decode cX10_both 27 = .ok (.return_, 1) := by decide +kernel
theorem dX10_compared_0 : decode cX10_compared 0 = .ok (.aload_n 0, 1) := by decide +kernel
theorem dX10_compared_1 : decode cX10_compared 1 = .ok (.invokevirtual 111, 3) := by decide +kernel
theorem dX10_compared_4 : decode cX10_compared 4 = .ok (.aload_n 0, 1) := by decide +kernel
theorem dX10_compared_5 : decode cX10_compared 5 = .ok (.bipush 60, 2) := by decide +kernel
theorem dX10_compared_7 : decode cX10_compared 7 = .ok (.invokevirtual 100, 3) := by decide +kernel
theorem dX10_compared_10 : decode cX10_compared 10 = .ok (.ifCond .eq 9, 3) := by decide +kernel
theorem dX10_compared_13 : decode cX10_compared 13 = .ok (.sipush 20002, 3) := by decide +kernel
theorem dX10_compared_16 : decode cX10_compared 16 = .ok (.goto 34, 3) := by decide +kernel
theorem dX10_compared_19 : decode cX10_compared 19 = .ok (.aload_n 0, 1) := by decide +kernel
theorem dX10_compared_20 : decode cX10_compared 20 = .ok (.bipush 61, 2) := by decide +kernel
theorem dX10_compared_22 : decode cX10_compared 22 = .ok (.invokevirtual 100, 3) := by decide +kernel
theorem dX10_compared_25 : decode cX10_compared 25 = .ok (.ifCond .eq 9, 3) := by decide +kernel
theorem dX10_compared_28 : decode cX10_compared 28 = .ok (.sipush 20003, 3) := by decide +kernel
theorem dX10_compared_31 : decode cX10_compared 31 = .ok (.goto 19, 3) := by decide +kernel
theorem dX10_compared_34 : decode cX10_compared 34 = .ok (.aload_n 0, 1) := by decide +kernel
theorem dX10_compared_35 : decode cX10_compared 35 = .ok (.bipush 62, 2) := by decide +kernel
theorem dX10_compared_37 : decode cX10_compared 37 = .ok (.invokevirtual 100, 3) := by decide +kernel
theorem dX10_compared_40 : decode cX10_compared 40 = .ok (.ifCond .eq 9, 3) := by decide +kernel
theorem dX10_compared_43 : decode cX10_compared 43 = .ok (.sipush 20004, 3) := by decide +kernel
theorem dX10_compared_46 : decode cX10_compared 46 = .ok (.goto 4, 3) := by decide +kernel
theorem dX10_compared_49 : decode cX10_compared 49 = .ok (.iconst 0, 1) := by decide +kernel
theorem dX10_compared_50 : decode cX10_compared 50 = .ok (.istore_n 1, 1) := by decide +kernel
theorem dX10_compared_51 : decode cX10_compared 51 = .ok (.iload_n 1, 1) := by decide +kernel
theorem dX10_compared_52 : decode cX10_compared 52 = .ok (.ifCond .le 12, 3) := by decide +kernel
theorem dX10_compared_55 : decode cX10_compared 55 = .ok (.aload_n 0, 1) := by decide +kernel
theorem dX10_compared_56 : decode cX10_compared 56 = .ok (.invokevirtual 111, 3) := by decide +kernel
theorem dX10_compared_59 : decode cX10_compared 59 = .ok (.aload_n 0, 1) := by decide +kernel
theorem dX10_compared_60 : decode cX10_compared 60 = .ok (.iload_n 1, 1) := by decide +kernel
theorem dX10_compared_61 : decode cX10_compared 61 = .ok (.invokevirtual 104, 3) := by decide +kernel
theorem dX10_compared_64 : decode cX10_compared 64 = .ok (.return_, 1) := by decide +kernel
theorem dX10_sum_0 : decode cX10_sum 0 = .ok (.aload_n 0, 1) := by decide +kernel
theorem dX10_sum_1 : decode cX10_sum 1 = .ok (.invokevirtual 114, 3) := by decide +kernel
theorem dX10_sum_4 : decode cX10_sum 4 = .ok (.aload_n 0, 1) := by decide +kernel
theorem dX10_sum_5 : decode cX10_sum 5 = .ok (.bipush 43, 2) := by decide +kernel
theorem dX10_sum_7 : decode cX10_sum 7 = .ok (.invokevirtual 100, 3) := by decide +kernel
theorem dX10_sum_10 : decode cX10_sum 10 = .ok (.ifCond .eq 9, 3) := by decide +kernel
theorem dX10_sum_13 : decode cX10_sum 13 = .ok (.sipush 20005, 3) := by decide +kernel
theorem dX10_sum_16 : decode cX10_sum 16 = .ok (.goto 19, 3) := by decide +kernel
theorem dX10_sum_19 : decode cX10_sum 19 = .ok (.aload_n 0, 1) := by decide +kernel
theorem dX10_sum_20 : decode cX10_sum 20 = .ok (.bipush 45, 2) := by decide +kernel
theorem dX10_sum_22 : decode cX10_sum 22 = .ok (.invokevirtual 100, 3) := by decide +kernel
theorem dX10_sum_25 : decode cX10_sum 25 = .ok (.ifCond .eq 9, 3) := by decide +kernel
theorem dX10_sum_28 : decode cX10_sum 28 = .ok (.sipush 20006, 3) := by decide +kernel
theorem dX10_sum_31 : decode cX10_sum 31 = .ok (.goto 4, 3) := by decide +kernel
theorem dX10_sum_34 : decode cX10_sum 34 = .ok (.iconst 0, 1) := by decide +kernel
theorem dX10_sum_35 : decode cX10_sum 35 = .ok (.istore_n 1, 1) := by decide +kernel
theorem dX10_sum_36 : decode cX10_sum 36 = .ok (.iload_n 1, 1) := by decide +kernel
theorem dX10_sum_37 : decode cX10_sum 37 = .ok (.ifCond .le 47, 3) := by decide +kernel
theorem dX10_sum_40 : decode cX10_sum 40 = .ok (.aload_n 0, 1) := by decide +kernel
theorem dX10_sum_41 : decode cX10_sum 41 = .ok (.invokevirtual 114, 3) := by decide +kernel
theorem dX10_sum_44 : decode cX10_sum 44 = .ok (.aload_n 0, 1) := by decide +kernel
theorem dX10_sum_45 : decode cX10_sum 45 = .ok (.iload_n 1, 1) := by decide +kernel
theorem dX10_sum_46 : decode cX10_sum 46 = .ok (.invokevirtual 104, 3) := by decide +kernel
theorem dX10_sum_49 : decode cX10_sum 49 = .ok (.aload_n 0, 1) := by decide +kernel
theorem dX10_sum_50 : decode cX10_sum 50 = .ok (.bipush 43, 2) := by decide +kernel
theorem dX10_sum_52 : decode cX10_sum 52 = .ok (.invokevirtual 100, 3) := by decide +kernel
theorem dX10_sum_55 : decode cX10_sum 55 = .ok (.ifCond .eq 9, 3) := by decide +kernel
theorem dX10_sum_58 : decode cX10_sum 58 = .ok (.sipush 20005, 3) := by decide +kernel
theorem dX10_sum_61 : decode cX10_sum 61 = .ok (.goto 19, 3) := by decide +kernel
theorem dX10_sum_64 : decode cX10_sum 64 = .ok (.aload_n 0, 1) := by decide +kernel
theorem dX10_sum_65 : decode cX10_sum 65 = .ok (.bipush 45, 2) := by decide +kernel
theorem dX10_sum_67 : decode cX10_sum 67 = .ok (.invokevirtual 100, 3) := by decide +kernel
theorem dX10_sum_70 : decode cX10_sum 70 = .ok (.ifCond .eq 9, 3) := by decide +kernel
theorem dX10_sum_73 : decode cX10_sum 73 = .ok (.sipush 20006, 3) := by decide +kernel
theorem dX10_sum_76 : decode cX10_sum 76 = .ok (.goto 4, 3) := by decide +kernel
theorem dX10_sum_79 : decode cX10_sum 79 = .ok (.iconst 0, 1) := by decide +kernel
theorem dX10_sum_80 : decode cX10_sum 80 = .ok (.istore_n 1, 1) := by decide +kernel
theorem dX10_sum_81 : decode cX10_sum 81 = .ok (.goto (-45), 3) := by decide +kernel
theorem dX10_sum_84 : decode cX10_sum 84 = .ok (.return_, 1) := by decide +kernel
theorem dX10_product_0 : decode cX10_product 0 = .ok (.aload_n 0, 1) := by decide +kernel
theorem dX10_product_1 : decode cX10_product 1 = .ok (.invokevirtual 117, 3) := by decide +kernel
theorem dX10_product_4 : decode cX10_product 4 = .ok (.aload_n 0, 1) := by decide +kernel
theorem dX10_product_5 : decode cX10_product 5 = .ok (.bipush 42, 2) := by decide +kernel
theorem dX10_product_7 : decode cX10_product 7 = .ok (.invokevirtual 100, 3) := by decide +kernel
theorem dX10_product_10 : decode cX10_product 10 = .ok (.ifCond .eq 9, 3) := by decide +kernel
theorem dX10_product_13 : decode cX10_product 13 = .ok (.sipush 20007, 3) := by decide +kernel
theorem dX10_product_16 : decode cX10_product 16 = .ok (.goto 34, 3) := by decide +kernel
theorem dX10_product_19 : decode cX10_product 19 = .ok (.aload_n 0, 1) := by decide +kernel
theorem dX10_product_20 : decode cX10_product 20 = .ok (.bipush 47, 2) := by decide +kernel
theorem dX10_product_22 : decode cX10_product 22 = .ok (.invokevirtual 100, 3) := by decide +kernel
theorem dX10_product_25 : decode cX10_product 25 = .ok (.ifCond .eq 9, 3) := by decide +kernel
theorem dX10_product_28 : decode cX10_product 28 = .ok (.sipush 20008, 3) := by decide +kernel
theorem dX10_product_31 : decode cX10_product 31 = .ok (.goto 19, 3) := by decide +kernel
theorem dX10_product_34 : decode cX10_product 34 = .ok (.aload_n 0, 1) := by decide +kernel
theorem dX10_product_35 : decode cX10_product 35 = .ok (.bipush 37, 2) := by decide +kernel
theorem dX10_product_37 : decode cX10_product 37 = .ok (.invokevirtual 100, 3) := by decide +kernel
theorem dX10_product_40 : decode cX10_product 40 = .ok (.ifCond .eq 9, 3) := by decide +kernel
theorem dX10_product_43 : decode cX10_product 43 = .ok (.sipush 20009, 3) := by decide +kernel
theorem dX10_product_46 : decode cX10_product 46 = .ok (.goto 4, 3) := by decide +kernel
theorem dX10_product_49 : decode cX10_product 49 = .ok (.iconst 0, 1) := by decide +kernel
theorem dX10_product_50 : decode cX10_product 50 = .ok (.istore_n 1, 1) := by decide +kernel
theorem dX10_product_51 : decode cX10_product 51 = .ok (.iload_n 1, 1) := by decide +kernel
theorem dX10_product_52 : decode cX10_product 52 = .ok (.ifCond .le 62, 3) := by decide +kernel
theorem dX10_product_55 : decode cX10_product 55 = .ok (.aload_n 0, 1) := by decide +kernel
theorem dX10_product_56 : decode cX10_product 56 = .ok (.invokevirtual 117, 3) := by decide +kernel
theorem dX10_product_59 : decode cX10_product 59 = .ok (.aload_n 0, 1) := by decide +kernel
theorem dX10_product_60 : decode cX10_product 60 = .ok (.iload_n 1, 1) := by decide +kernel
theorem dX10_product_61 : decode cX10_product 61 = .ok (.invokevirtual 104, 3) := by decide +kernel
theorem dX10_product_64 : decode cX10_product 64 = .ok (.aload_n 0, 1) := by decide +kernel
theorem dX10_product_65 : decode cX10_product 65 = .ok (.bipush 42, 2) := by decide +kernel
theorem dX10_product_67 : decode cX10_product 67 = .ok (.invokevirtual 100, 3) := by decide +kernel
theorem dX10_product_70 : decode cX10_product 70 = .ok (.ifCond .eq 9, 3) := by decide +kernel
theorem dX10_product_73 : decode cX10_product 73 = .ok (.sipush 20007, 3) := by decide +kernel
theorem dX10_product_76 : decode cX10_product 76 = .ok (.goto 34, 3) := by decide +kernel
theorem dX10_product_79 : decode cX10_product 79 = .ok (.aload_n 0, 1) := by decide +kernel
theorem dX10_product_80 : decode cX10_product 80 = .ok (.bipush 47, 2) := by decide +kernel
theorem dX10_product_82 : decode cX10_product 82 = .ok (.invokevirtual 100, 3) := by decide +kernel
theorem dX10_product_85 : decode cX10_product 85 = .ok (.ifCond .eq 9, 3) := by decide +kernel
theorem dX10_product_88 : decode cX10_product 88 = .ok (.sipush 20008, 3) := by decide +kernel
theorem dX10_product_91 : decode cX10_product 91 = .ok (.goto 19, 3) := by decide +kernel
theorem dX10_product_94 : decode cX10_product 94 = .ok (.aload_n 0, 1) := by decide +kernel
theorem dX10_product_95 : decode cX10_product 95 = .ok (.bipush 37, 2) := by decide +kernel
theorem dX10_product_97 : decode cX10_product 97 = .ok (.invokevirtual 100, 3) := by decide +kernel
theorem dX10_product_100 : decode cX10_product 100 = .ok (.ifCond .eq 9, 3) := by decide +kernel
theorem dX10_product_103 : decode cX10_product 103 = .ok (.sipush 20009, 3) := by decide +kernel
theorem dX10_product_106 : decode cX10_product 106 = .ok (.goto 4, 3) := by decide +kernel
theorem dX10_product_109 : decode cX10_product 109 = .ok (.iconst 0, 1) := by decide +kernel
theorem dX10_product_110 : decode cX10_product 110 = .ok (.istore_n 1, 1) := by decide +kernel
theorem dX10_product_111 : decode cX10_product 111 = .ok (.goto (-60), 3) := by decide +kernel
theorem dX10_product_114 : decode cX10_product 114 = .ok (.return_, 1) := by decide +kernel
theorem dX10_nameOf_0 : decode cX10_nameOf 0 = .ok (.iconst (-1), 1) := by decide +kernel
theorem dX10_nameOf_1 : decode cX10_nameOf 1 = .ok (.istore_n 2, 1) := by decide +kernel
theorem dX10_nameOf_2 : decode cX10_nameOf 2 = .ok (.iconst 0, 1) := by decide +kernel
theorem dX10_nameOf_3 : decode cX10_nameOf 3 = .ok (.istore_n 3, 1) := by decide +kernel
theorem dX10_nameOf_4 : decode cX10_nameOf 4 = .ok (.iload_n 3, 1) := by decide +kernel
theorem dX10_nameOf_5 : decode cX10_nameOf 5 = .ok (.aload_n 0, 1) := by decide +kernel
theorem dX10_nameOf_6 : decode cX10_nameOf 6 = .ok (.getfield 28, 3) := by decide +kernel
theorem dX10_nameOf_9 : decode cX10_nameOf 9 = .ok (.aload_n 0, 1) := by decide +kernel
theorem dX10_nameOf_10 : decode cX10_nameOf 10 = .ok (.getfield 120, 3) := by decide +kernel
theorem dX10_nameOf_13 : decode cX10_nameOf 13 = .ok (.aaload, 1) := by decide +kernel
theorem dX10_nameOf_14 : decode cX10_nameOf 14 = .ok (.invokevirtual 123, 3) := by decide +kernel
theorem dX10_nameOf_17 : decode cX10_nameOf 17 = .ok (.if_icmp .ge 32, 3) := by decide +kernel
theorem dX10_nameOf_20 : decode cX10_nameOf 20 = .ok (.aload_n 0, 1) := by decide +kernel
theorem dX10_nameOf_21 : decode cX10_nameOf 21 = .ok (.getfield 28, 3) := by decide +kernel
theorem dX10_nameOf_24 : decode cX10_nameOf 24 = .ok (.aload_n 0, 1) := by decide +kernel
theorem dX10_nameOf_25 : decode cX10_nameOf 25 = .ok (.getfield 120, 3) := by decide +kernel
theorem dX10_nameOf_28 : decode cX10_nameOf 28 = .ok (.aaload, 1) := by decide +kernel
theorem dX10_nameOf_29 : decode cX10_nameOf 29 = .ok (.iload_n 3, 1) := by decide +kernel
theorem dX10_nameOf_30 : decode cX10_nameOf 30 = .ok (.invokevirtual 126, 3) := by decide +kernel
theorem dX10_nameOf_33 : decode cX10_nameOf 33 = .ok (.iload_n 1, 1) := by decide +kernel
theorem dX10_nameOf_34 : decode cX10_nameOf 34 = .ok (.if_icmp .ne 7, 3) := by decide +kernel
theorem dX10_nameOf_37 : decode cX10_nameOf 37 = .ok (.iload_n 3, 1) := by decide +kernel
theorem dX10_nameOf_38 : decode cX10_nameOf 38 = .ok (.goto 4, 3) := by decide +kernel
theorem dX10_nameOf_41 : decode cX10_nameOf 41 = .ok (.iload_n 2, 1) := by decide +kernel
theorem dX10_nameOf_42 : decode cX10_nameOf 42 = .ok (.istore_n 2, 1) := by decide +kernel
theorem dX10_nameOf_43 : decode cX10_nameOf 43 = .ok (.iinc 3 1, 3) := by decide +kernel
theorem dX10_nameOf_46 : decode cX10_nameOf 46 = .ok (.goto (-42), 3) := by decide +kernel
theorem dX10_nameOf_49 : decode cX10_nameOf 49 = .ok (.iload_n 2, 1) := by decide +kernel
theorem dX10_nameOf_50 : decode cX10_nameOf 50 = .ok (.ireturn, 1) := by decide +kernel
theorem dX10_one_0 : decode cX10_one 0 = .ok (.aload_n 0, 1) := by decide +kernel
theorem dX10_one_1 : decode cX10_one 1 = .ok (.invokevirtual 90, 3) := by decide +kernel
theorem dX10_one_4 : decode cX10_one 4 = .ok (.istore_n 1, 1) := by decide +kernel
theorem dX10_one_5 : decode cX10_one 5 = .ok (.iload_n 1, 1) := by decide +kernel
theorem dX10_one_6 : decode cX10_one 6 = .ok (.bipush 33, 2) := by decide +kernel
theorem dX10_one_8 : decode cX10_one 8 = .ok (.if_icmp .eq 9, 3) := by decide +kernel
theorem dX10_one_11 : decode cX10_one 11 = .ok (.iload_n 1, 1) := by decide +kernel
theorem dX10_one_12 : decode cX10_one 12 = .ok (.bipush 40, 2) := by decide +kernel
theorem dX10_one_14 : decode cX10_one 14 = .ok (.if_icmp .ne 102, 3) := by decide +kernel
theorem dX10_one_17 : decode cX10_one 17 = .ok (.aload_n 0, 1) := by decide +kernel
theorem dX10_one_18 : decode cX10_one 18 = .ok (.aload_n 0, 1) := by decide +kernel
theorem dX10_one_19 : decode cX10_one 19 = .ok (.getfield 130, 3) := by decide +kernel
theorem dX10_one_22 : decode cX10_one 22 = .ok (.iconst 5, 1) := by decide +kernel
theorem dX10_one_23 : decode cX10_one 23 = .ok (.if_icmp .ne 7, 3) := by decide +kernel
theorem dX10_one_26 : decode cX10_one 26 = .ok (.iconst 1, 1) := by decide +kernel
theorem dX10_one_27 : decode cX10_one 27 = .ok (.goto 4, 3) := by decide +kernel
theorem dX10_one_30 : decode cX10_one 30 = .ok (.iconst 0, 1) := by decide +kernel
theorem dX10_one_31 : decode cX10_one 31 = .ok (.putfield 82, 3) := by decide +kernel
theorem dX10_one_34 : decode cX10_one 34 = .ok (.aload_n 0, 1) := by decide +kernel
theorem dX10_one_35 : decode cX10_one 35 = .ok (.getfield 82, 3) := by decide +kernel
theorem dX10_one_38 : decode cX10_one 38 = .ok (.ifCond .ne 209, 3) := by decide +kernel
theorem dX10_one_41 : decode cX10_one 41 = .ok (.aload_n 0, 1) := by decide +kernel
theorem dX10_one_42 : decode cX10_one 42 = .ok (.dup, 1) := by decide +kernel
theorem dX10_one_43 : decode cX10_one 43 = .ok (.getfield 130, 3) := by decide +kernel
theorem dX10_one_46 : decode cX10_one 46 = .ok (.iconst 1, 1) := by decide +kernel
theorem dX10_one_47 : decode cX10_one 47 = .ok (.iadd, 1) := by decide +kernel
theorem dX10_one_48 : decode cX10_one 48 = .ok (.putfield 130, 3) := by decide +kernel
theorem dX10_one_51 : decode cX10_one 51 = .ok (.aload_n 0, 1) := by decide +kernel
theorem dX10_one_52 : decode cX10_one 52 = .ok (.dup, 1) := by decide +kernel
theorem dX10_one_53 : decode cX10_one 53 = .ok (.getfield 86, 3) := by decide +kernel
theorem dX10_one_56 : decode cX10_one 56 = .ok (.iconst 1, 1) := by decide +kernel
theorem dX10_one_57 : decode cX10_one 57 = .ok (.iadd, 1) := by decide +kernel
theorem dX10_one_58 : decode cX10_one 58 = .ok (.putfield 86, 3) := by decide +kernel
theorem dX10_one_61 : decode cX10_one 61 = .ok (.iload_n 1, 1) := by decide +kernel
theorem dX10_one_62 : decode cX10_one 62 = .ok (.bipush 33, 2) := by decide +kernel
theorem dX10_one_64 : decode cX10_one 64 = .ok (.if_icmp .ne 17, 3) := by decide +kernel
theorem dX10_one_67 : decode cX10_one 67 = .ok (.aload_n 0, 1) := by decide +kernel
theorem dX10_one_68 : decode cX10_one 68 = .ok (.invokevirtual 117, 3) := by decide +kernel
theorem dX10_one_71 : decode cX10_one 71 = .ok (.aload_n 0, 1) := by decide +kernel
theorem dX10_one_72 : decode cX10_one 72 = .ok (.sipush 20010, 3) := by decide +kernel
theorem dX10_one_75 : decode cX10_one 75 = .ok (.invokevirtual 104, 3) := by decide +kernel
theorem dX10_one_78 : decode cX10_one 78 = .ok (.goto 25, 3) := by decide +kernel
theorem dX10_one_81 : decode cX10_one 81 = .ok (.aload_n 0, 1) := by decide +kernel
theorem dX10_one_82 : decode cX10_one 82 = .ok (.invokevirtual 133, 3) := by decide +kernel
theorem dX10_one_85 : decode cX10_one 85 = .ok (.aload_n 0, 1) := by decide +kernel
theorem dX10_one_86 : decode cX10_one 86 = .ok (.aload_n 0, 1) := by decide +kernel
theorem dX10_one_87 : decode cX10_one 87 = .ok (.bipush 41, 2) := by decide +kernel
theorem dX10_one_89 : decode cX10_one 89 = .ok (.invokevirtual 100, 3) := by decide +kernel
theorem dX10_one_92 : decode cX10_one 92 = .ok (.ifCond .ne 7, 3) := by decide +kernel
theorem dX10_one_95 : decode cX10_one 95 = .ok (.iconst 1, 1) := by decide +kernel
theorem dX10_one_96 : decode cX10_one 96 = .ok (.goto 4, 3) := by decide +kernel
theorem dX10_one_99 : decode cX10_one 99 = .ok (.iconst 0, 1) := by decide +kernel
theorem dX10_one_100 : decode cX10_one 100 = .ok (.putfield 82, 3) := by decide +kernel
theorem dX10_one_103 : decode cX10_one 103 = .ok (.aload_n 0, 1) := by decide +kernel
theorem dX10_one_104 : decode cX10_one 104 = .ok (.dup, 1) := by decide +kernel
theorem dX10_one_105 : decode cX10_one 105 = .ok (.getfield 130, 3) := by decide +kernel
theorem dX10_one_108 : decode cX10_one 108 = .ok (.iconst 1, 1) := by decide +kernel
theorem dX10_one_109 : decode cX10_one 109 = .ok (.isub, 1) := by decide +kernel
theorem dX10_one_110 : decode cX10_one 110 = .ok (.putfield 130, 3) := by decide +kernel
theorem dX10_one_113 : decode cX10_one 113 = .ok (.goto 134, 3) := by decide +kernel
theorem dX10_one_116 : decode cX10_one 116 = .ok (.iload_n 1, 1) := by decide +kernel
theorem dX10_one_117 : decode cX10_one 117 = .ok (.bipush 48, 2) := by decide +kernel
theorem dX10_one_119 : decode cX10_one 119 = .ok (.bipush 57, 2) := by decide +kernel
theorem dX10_one_121 : decode cX10_one 121 = .ok (.invokestatic 70, 3) := by decide +kernel
theorem dX10_one_124 : decode cX10_one 124 = .ok (.ifCond .eq 63, 3) := by decide +kernel
theorem dX10_one_127 : decode cX10_one 127 = .ok (.iconst 0, 1) := by decide +kernel
theorem dX10_one_128 : decode cX10_one 128 = .ok (.istore_n 2, 1) := by decide +kernel
theorem dX10_one_129 : decode cX10_one 129 = .ok (.iconst 0, 1) := by decide +kernel
theorem dX10_one_130 : decode cX10_one 130 = .ok (.istore_n 3, 1) := by decide +kernel
theorem dX10_one_131 : decode cX10_one 131 = .ok (.iload_n 3, 1) := by decide +kernel
theorem dX10_one_132 : decode cX10_one 132 = .ok (.iconst 4, 1) := by decide +kernel
theorem dX10_one_133 : decode cX10_one 133 = .ok (.if_icmp .ge 46, 3) := by decide +kernel
theorem dX10_one_136 : decode cX10_one 136 = .ok (.aload_n 0, 1) := by decide +kernel
theorem dX10_one_137 : decode cX10_one 137 = .ok (.invokevirtual 90, 3) := by decide +kernel
theorem dX10_one_140 : decode cX10_one 140 = .ok (.bipush 48, 2) := by decide +kernel
theorem dX10_one_142 : decode cX10_one 142 = .ok (.bipush 57, 2) := by decide +kernel
theorem dX10_one_144 : decode cX10_one 144 = .ok (.invokestatic 70, 3) := by decide +kernel
theorem dX10_one_147 : decode cX10_one 147 = .ok (.ifCond .eq 32, 3) := by decide +kernel
theorem dX10_one_150 : decode cX10_one 150 = .ok (.bipush 10, 2) := by decide +kernel
theorem dX10_one_152 : decode cX10_one 152 = .ok (.iload_n 2, 1) := by decide +kernel
theorem dX10_one_153 : decode cX10_one 153 = .ok (.imul, 1) := by decide +kernel
theorem dX10_one_154 : decode cX10_one 154 = .ok (.aload_n 0, 1) := by decide +kernel
theorem dX10_one_155 : decode cX10_one 155 = .ok (.invokevirtual 90, 3) := by decide +kernel
theorem dX10_one_158 : decode cX10_one 158 = .ok (.iadd, 1) := by decide +kernel
theorem dX10_one_159 : decode cX10_one 159 = .ok (.bipush 48, 2) := by decide +kernel
theorem dX10_one_161 : decode cX10_one 161 = .ok (.isub, 1) := by decide +kernel
theorem dX10_one_162 : decode cX10_one 162 = .ok (.istore_n 2, 1) := by decide +kernel
theorem dX10_one_163 : decode cX10_one 163 = .ok (.aload_n 0, 1) := by decide +kernel
theorem dX10_one_164 : decode cX10_one 164 = .ok (.dup, 1) := by decide +kernel
theorem dX10_one_165 : decode cX10_one 165 = .ok (.getfield 86, 3) := by decide +kernel
theorem dX10_one_168 : decode cX10_one 168 = .ok (.iconst 1, 1) := by decide +kernel
theorem dX10_one_169 : decode cX10_one 169 = .ok (.iadd, 1) := by decide +kernel
theorem dX10_one_170 : decode cX10_one 170 = .ok (.putfield 86, 3) := by decide +kernel
theorem dX10_one_173 : decode cX10_one 173 = .ok (.iinc 3 1, 3) := by decide +kernel
theorem dX10_one_176 : decode cX10_one 176 = .ok (.goto (-45), 3) := by decide +kernel
theorem dX10_one_179 : decode cX10_one 179 = .ok (.aload_n 0, 1) := by decide +kernel
theorem dX10_one_180 : decode cX10_one 180 = .ok (.iload_n 2, 1) := by decide +kernel
theorem dX10_one_181 : decode cX10_one 181 = .ok (.invokevirtual 104, 3) := by decide +kernel
theorem dX10_one_184 : decode cX10_one 184 = .ok (.goto 63, 3) := by decide +kernel
theorem dX10_one_187 : decode cX10_one 187 = .ok (.iload_n 1, 1) := by decide +kernel
theorem dX10_one_188 : decode cX10_one 188 = .ok (.ifCond .ge 7, 3) := by decide +kernel
theorem dX10_one_191 : decode cX10_one 191 = .ok (.iconst (-1), 1) := by decide +kernel
theorem dX10_one_192 : decode cX10_one 192 = .ok (.goto 8, 3) := by decide +kernel
theorem dX10_one_195 : decode cX10_one 195 = .ok (.aload_n 0, 1) := by decide +kernel
theorem dX10_one_196 : decode cX10_one 196 = .ok (.iload_n 1, 1) := by decide +kernel
theorem dX10_one_197 : decode cX10_one 197 = .ok (.invokevirtual 136, 3) := by decide +kernel
theorem dX10_one_200 : decode cX10_one 200 = .ok (.istore_n 2, 1) := by decide +kernel
theorem dX10_one_201 : decode cX10_one 201 = .ok (.aload_n 0, 1) := by decide +kernel
theorem dX10_one_202 : decode cX10_one 202 = .ok (.aload_n 0, 1) := by decide +kernel
theorem dX10_one_203 : decode cX10_one 203 = .ok (.getfield 82, 3) := by decide +kernel
theorem dX10_one_206 : decode cX10_one 206 = .ok (.ifCond .ne 7, 3) := by decide +kernel
theorem dX10_one_209 : decode cX10_one 209 = .ok (.iload_n 2, 1) := by decide +kernel
theorem dX10_one_210 : decode cX10_one 210 = .ok (.ifCond .ge 7, 3) := by decide +kernel
theorem dX10_one_213 : decode cX10_one 213 = .ok (.iconst 1, 1) := by decide +kernel
theorem dX10_one_214 : decode cX10_one 214 = .ok (.goto 4, 3) := by decide +kernel
theorem dX10_one_217 : decode cX10_one 217 = .ok (.iconst 0, 1) := by decide +kernel
theorem dX10_one_218 : decode cX10_one 218 = .ok (.putfield 82, 3) := by decide +kernel
theorem dX10_one_221 : decode cX10_one 221 = .ok (.aload_n 0, 1) := by decide +kernel
theorem dX10_one_222 : decode cX10_one 222 = .ok (.getfield 82, 3) := by decide +kernel
theorem dX10_one_225 : decode cX10_one 225 = .ok (.ifCond .ne 22, 3) := by decide +kernel
theorem dX10_one_228 : decode cX10_one 228 = .ok (.aload_n 0, 1) := by decide +kernel
theorem dX10_one_229 : decode cX10_one 229 = .ok (.sipush 10000, 3) := by decide +kernel
theorem dX10_one_232 : decode cX10_one 232 = .ok (.iload_n 2, 1) := by decide +kernel
theorem dX10_one_233 : decode cX10_one 233 = .ok (.iadd, 1) := by decide +kernel
theorem dX10_one_234 : decode cX10_one 234 = .ok (.invokevirtual 104, 3) := by decide +kernel
theorem dX10_one_237 : decode cX10_one 237 = .ok (.aload_n 0, 1) := by decide +kernel
theorem dX10_one_238 : decode cX10_one 238 = .ok (.dup, 1) := by decide +kernel
theorem dX10_one_239 : decode cX10_one 239 = .ok (.getfield 86, 3) := by decide +kernel
theorem dX10_one_242 : decode cX10_one 242 = .ok (.iconst 1, 1) := by decide +kernel
theorem dX10_one_243 : decode cX10_one 243 = .ok (.iadd, 1) := by decide +kernel
theorem dX10_one_244 : decode cX10_one 244 = .ok (.putfield 86, 3) := by decide +kernel
theorem dX10_one_247 : decode cX10_one 247 = .ok (.return_, 1) := by decide +kernel
theorem dX10_text_0 : decode cX10_text 0 = .ok (.iload_n 1, 1) := by decide +kernel
theorem dX10_text_1 : decode cX10_text 1 = .ok (.iconst 0, 1) := by decide +kernel
theorem dX10_text_2 : decode cX10_text 2 = .ok (.iconst 1, 1) := by decide +kernel
theorem dX10_text_3 : decode cX10_text 3 = .ok (.invokestatic 70, 3) := by decide +kernel
theorem dX10_text_6 : decode cX10_text 6 = .ok (.ifCond .ne 10, 3) := by decide +kernel
theorem dX10_text_9 : decode cX10_text 9 = .ok (.aload_n 0, 1) := by decide +kernel
theorem dX10_text_10 : decode cX10_text 10 = .ok (.ldc 74, 2) := by decide +kernel
theorem dX10_text_12 : decode cX10_text 12 = .ok (.invokevirtual 75, 3) := by decide +kernel
theorem dX10_text_15 : decode cX10_text 15 = .ok (.ireturn, 1) := by decide +kernel
theorem dX10_text_16 : decode cX10_text 16 = .ok (.aload_n 0, 1) := by decide +kernel
theorem dX10_text_17 : decode cX10_text 17 = .ok (.iload_n 1, 1) := by decide +kernel
theorem dX10_text_18 : decode cX10_text 18 = .ok (.putfield 120, 3) := by decide +kernel
theorem dX10_text_21 : decode cX10_text 21 = .ok (.aload_n 0, 1) := by decide +kernel
theorem dX10_text_22 : decode cX10_text 22 = .ok (.iconst 0, 1) := by decide +kernel
theorem dX10_text_23 : decode cX10_text 23 = .ok (.putfield 86, 3) := by decide +kernel
theorem dX10_text_26 : decode cX10_text 26 = .ok (.aload_n 0, 1) := by decide +kernel
theorem dX10_text_27 : decode cX10_text 27 = .ok (.iconst 0, 1) := by decide +kernel
theorem dX10_text_28 : decode cX10_text 28 = .ok (.putfield 130, 3) := by decide +kernel
theorem dX10_text_31 : decode cX10_text 31 = .ok (.aload_n 0, 1) := by decide +kernel
theorem dX10_text_32 : decode cX10_text 32 = .ok (.iconst 0, 1) := by decide +kernel
theorem dX10_text_33 : decode cX10_text 33 = .ok (.putfield 82, 3) := by decide +kernel
theorem dX10_text_36 : decode cX10_text 36 = .ok (.aload_n 0, 1) := by decide +kernel
theorem dX10_text_37 : decode cX10_text 37 = .ok (.iconst 0, 1) := by decide +kernel
theorem dX10_text_38 : decode cX10_text 38 = .ok (.putfield 94, 3) := by decide +kernel
theorem dX10_text_41 : decode cX10_text 41 = .ok (.aload_n 0, 1) := by decide +kernel
theorem dX10_text_42 : decode cX10_text 42 = .ok (.invokevirtual 133, 3) := by decide +kernel
theorem dX10_text_45 : decode cX10_text 45 = .ok (.aload_n 0, 1) := by decide +kernel
theorem dX10_text_46 : decode cX10_text 46 = .ok (.aload_n 0, 1) := by decide +kernel
theorem dX10_text_47 : decode cX10_text 47 = .ok (.getfield 82, 3) := by decide +kernel
theorem dX10_text_50 : decode cX10_text 50 = .ok (.ifCond .ne 16, 3) := by decide +kernel
theorem dX10_text_53 : decode cX10_text 53 = .ok (.aload_n 0, 1) := by decide +kernel
theorem dX10_text_54 : decode cX10_text 54 = .ok (.getfield 86, 3) := by decide +kernel
theorem dX10_text_57 : decode cX10_text 57 = .ok (.aload_n 0, 1) := by decide +kernel
theorem dX10_text_58 : decode cX10_text 58 = .ok (.getfield 9, 3) := by decide +kernel
theorem dX10_text_61 : decode cX10_text 61 = .ok (.iconst 5, 1) := by decide +kernel
theorem dX10_text_62 : decode cX10_text 62 = .ok (.iaload, 1) := by decide +kernel
theorem dX10_text_63 : decode cX10_text 63 = .ok (.if_icmp .ge 7, 3) := by decide +kernel
theorem dX10_text_66 : decode cX10_text 66 = .ok (.iconst 1, 1) := by decide +kernel
theorem dX10_text_67 : decode cX10_text 67 = .ok (.goto 4, 3) := by decide +kernel
theorem dX10_text_70 : decode cX10_text 70 = .ok (.iconst 0, 1) := by decide +kernel
theorem dX10_text_71 : decode cX10_text 71 = .ok (.putfield 82, 3) := by decide +kernel
theorem dX10_text_74 : decode cX10_text 74 = .ok (.aload_n 0, 1) := by decide +kernel
theorem dX10_text_75 : decode cX10_text 75 = .ok (.getfield 9, 3) := by decide +kernel
theorem dX10_text_78 : decode cX10_text 78 = .ok (.iconst 5, 1) := by decide +kernel
theorem dX10_text_79 : decode cX10_text 79 = .ok (.iconst 0, 1) := by decide +kernel
theorem dX10_text_80 : decode cX10_text 80 = .ok (.iastore, 1) := by decide +kernel
theorem dX10_text_81 : decode cX10_text 81 = .ok (.aload_n 0, 1) := by decide +kernel
theorem dX10_text_82 : decode cX10_text 82 = .ok (.getfield 82, 3) := by decide +kernel
theorem dX10_text_85 : decode cX10_text 85 = .ok (.ifCond .eq 11, 3) := by decide +kernel
theorem dX10_text_88 : decode cX10_text 88 = .ok (.bipush (-10), 2) := by decide +kernel
theorem dX10_text_90 : decode cX10_text 90 = .ok (.aload_n 0, 1) := by decide +kernel
theorem dX10_text_91 : decode cX10_text 91 = .ok (.getfield 86, 3) := by decide +kernel
theorem dX10_text_94 : decode cX10_text 94 = .ok (.isub, 1) := by decide +kernel
theorem dX10_text_95 : decode cX10_text 95 = .ok (.ireturn, 1) := by decide +kernel
theorem dX10_text_96 : decode cX10_text 96 = .ok (.aload_n 0, 1) := by decide +kernel
theorem dX10_text_97 : decode cX10_text 97 = .ok (.getfield 9, 3) := by decide +kernel
theorem dX10_text_100 : decode cX10_text 100 = .ok (.sipush 175, 3) := by decide +kernel
theorem dX10_text_103 : decode cX10_text 103 = .ok (.bipush 52, 2) := by decide +kernel
theorem dX10_text_105 : decode cX10_text 105 = .ok (.aload_n 0, 1) := by decide +kernel
theorem dX10_text_106 : decode cX10_text 106 = .ok (.getfield 120, 3) := by decide +kernel
theorem dX10_text_109 : decode cX10_text 109 = .ok (.imul, 1) := by decide +kernel
theorem dX10_text_110 : decode cX10_text 110 = .ok (.iadd, 1) := by decide +kernel
theorem dX10_text_111 : decode cX10_text 111 = .ok (.aload_n 0, 1) := by decide +kernel
theorem dX10_text_112 : decode cX10_text 112 = .ok (.getfield 94, 3) := by decide +kernel
theorem dX10_text_115 : decode cX10_text 115 = .ok (.iastore, 1) := by decide +kernel
theorem dX10_text_116 : decode cX10_text 116 = .ok (.iconst 0, 1) := by decide +kernel
theorem dX10_text_117 : decode cX10_text 117 = .ok (.istore_n 2, 1) := by decide +kernel
theorem dX10_text_118 : decode cX10_text 118 = .ok (.iload_n 2, 1) := by decide +kernel
theorem dX10_text_119 : decode cX10_text 119 = .ok (.aload_n 0, 1) := by decide +kernel
theorem dX10_text_120 : decode cX10_text 120 = .ok (.getfield 94, 3) := by decide +kernel
theorem dX10_text_123 : decode cX10_text 123 = .ok (.if_icmp .ge 35, 3) := by decide +kernel
theorem dX10_text_126 : decode cX10_text 126 = .ok (.aload_n 0, 1) := by decide +kernel
theorem dX10_text_127 : decode cX10_text 127 = .ok (.getfield 9, 3) := by decide +kernel
theorem dX10_text_130 : decode cX10_text 130 = .ok (.sipush 175, 3) := by decide +kernel
theorem dX10_text_133 : decode cX10_text 133 = .ok (.bipush 52, 2) := by decide +kernel
theorem dX10_text_135 : decode cX10_text 135 = .ok (.aload_n 0, 1) := by decide +kernel
theorem dX10_text_136 : decode cX10_text 136 = .ok (.getfield 120, 3) := by decide +kernel
theorem dX10_text_139 : decode cX10_text 139 = .ok (.imul, 1) := by decide +kernel
theorem dX10_text_140 : decode cX10_text 140 = .ok (.iadd, 1) := by decide +kernel
theorem dX10_text_141 : decode cX10_text 141 = .ok (.iconst 1, 1) := by decide +kernel
theorem dX10_text_142 : decode cX10_text 142 = .ok (.iadd, 1) := by decide +kernel
theorem dX10_text_143 : decode cX10_text 143 = .ok (.iload_n 2, 1) := by decide +kernel
theorem dX10_text_144 : decode cX10_text 144 = .ok (.iadd, 1) := by decide +kernel
theorem dX10_text_145 : decode cX10_text 145 = .ok (.aload_n 0, 1) := by decide +kernel
theorem dX10_text_146 : decode cX10_text 146 = .ok (.getfield 32, 3) := by decide +kernel
theorem dX10_text_149 : decode cX10_text 149 = .ok (.iload_n 2, 1) := by decide +kernel
theorem dX10_text_150 : decode cX10_text 150 = .ok (.iaload, 1) := by decide +kernel
theorem dX10_text_151 : decode cX10_text 151 = .ok (.iastore, 1) := by decide +kernel
theorem dX10_text_152 : decode cX10_text 152 = .ok (.iinc 2 1, 3) := by decide +kernel
theorem dX10_text_155 : decode cX10_text 155 = .ok (.goto (-37), 3) := by decide +kernel
theorem dX10_text_158 : decode cX10_text 158 = .ok (.iconst 1, 1) := by decide +kernel
theorem dX10_text_159 : decode cX10_text 159 = .ok (.ireturn, 1) := by decide +kernel
theorem dX10_done_0 : decode cX10_done 0 = .ok (.iload_n 0, 1) := by decide +kernel
theorem dX10_done_1 : decode cX10_done 1 = .ok (.tableswitch 136 20000 20008 #[51, 65, 79, 90, 101, 112, 116, 120, 124], 51) := by decide +kernel
theorem dX10_done_52 : decode cX10_done 52 = .ok (.iload_n 1, 1) := by decide +kernel
theorem dX10_done_53 : decode cX10_done 53 = .ok (.ifCond .ne 7, 3) := by decide +kernel
theorem dX10_done_56 : decode cX10_done 56 = .ok (.iload_n 2, 1) := by decide +kernel
theorem dX10_done_57 : decode cX10_done 57 = .ok (.ifCond .eq 7, 3) := by decide +kernel
theorem dX10_done_60 : decode cX10_done 60 = .ok (.iconst 1, 1) := by decide +kernel
theorem dX10_done_61 : decode cX10_done 61 = .ok (.goto 4, 3) := by decide +kernel
theorem dX10_done_64 : decode cX10_done 64 = .ok (.iconst 0, 1) := by decide +kernel
theorem dX10_done_65 : decode cX10_done 65 = .ok (.ireturn, 1) := by decide +kernel
theorem dX10_done_66 : decode cX10_done 66 = .ok (.iload_n 1, 1) := by decide +kernel
theorem dX10_done_67 : decode cX10_done 67 = .ok (.ifCond .eq 11, 3) := by decide +kernel
theorem dX10_done_70 : decode cX10_done 70 = .ok (.iload_n 2, 1) := by decide +kernel
theorem dX10_done_71 : decode cX10_done 71 = .ok (.ifCond .eq 7, 3) := by decide +kernel
theorem dX10_done_74 : decode cX10_done 74 = .ok (.iconst 1, 1) := by decide +kernel
theorem dX10_done_75 : decode cX10_done 75 = .ok (.goto 4, 3) := by decide +kernel
theorem dX10_done_78 : decode cX10_done 78 = .ok (.iconst 0, 1) := by decide +kernel
theorem dX10_done_79 : decode cX10_done 79 = .ok (.ireturn, 1) := by decide +kernel
theorem dX10_done_80 : decode cX10_done 80 = .ok (.iload_n 1, 1) := by decide +kernel
theorem dX10_done_81 : decode cX10_done 81 = .ok (.iload_n 2, 1) := by decide +kernel
theorem dX10_done_82 : decode cX10_done 82 = .ok (.if_icmp .ge 7, 3) := by decide +kernel
theorem dX10_done_85 : decode cX10_done 85 = .ok (.iconst 1, 1) := by decide +kernel
theorem dX10_done_86 : decode cX10_done 86 = .ok (.goto 4, 3) := by decide +kernel
theorem dX10_done_89 : decode cX10_done 89 = .ok (.iconst 0, 1) := by decide +kernel
theorem dX10_done_90 : decode cX10_done 90 = .ok (.ireturn, 1) := by decide +kernel
theorem dX10_done_91 : decode cX10_done 91 = .ok (.iload_n 1, 1) := by decide +kernel
theorem dX10_done_92 : decode cX10_done 92 = .ok (.iload_n 2, 1) := by decide +kernel
theorem dX10_done_93 : decode cX10_done 93 = .ok (.if_icmp .ne 7, 3) := by decide +kernel
theorem dX10_done_96 : decode cX10_done 96 = .ok (.iconst 1, 1) := by decide +kernel
theorem dX10_done_97 : decode cX10_done 97 = .ok (.goto 4, 3) := by decide +kernel
theorem dX10_done_100 : decode cX10_done 100 = .ok (.iconst 0, 1) := by decide +kernel
theorem dX10_done_101 : decode cX10_done 101 = .ok (.ireturn, 1) := by decide +kernel
theorem dX10_done_102 : decode cX10_done 102 = .ok (.iload_n 1, 1) := by decide +kernel
theorem dX10_done_103 : decode cX10_done 103 = .ok (.iload_n 2, 1) := by decide +kernel
theorem dX10_done_104 : decode cX10_done 104 = .ok (.if_icmp .le 7, 3) := by decide +kernel
theorem dX10_done_107 : decode cX10_done 107 = .ok (.iconst 1, 1) := by decide +kernel
theorem dX10_done_108 : decode cX10_done 108 = .ok (.goto 4, 3) := by decide +kernel
theorem dX10_done_111 : decode cX10_done 111 = .ok (.iconst 0, 1) := by decide +kernel
theorem dX10_done_112 : decode cX10_done 112 = .ok (.ireturn, 1) := by decide +kernel
theorem dX10_done_113 : decode cX10_done 113 = .ok (.iload_n 1, 1) := by decide +kernel
theorem dX10_done_114 : decode cX10_done 114 = .ok (.iload_n 2, 1) := by decide +kernel
theorem dX10_done_115 : decode cX10_done 115 = .ok (.iadd, 1) := by decide +kernel
theorem dX10_done_116 : decode cX10_done 116 = .ok (.ireturn, 1) := by decide +kernel
theorem dX10_done_117 : decode cX10_done 117 = .ok (.iload_n 1, 1) := by decide +kernel
theorem dX10_done_118 : decode cX10_done 118 = .ok (.iload_n 2, 1) := by decide +kernel
theorem dX10_done_119 : decode cX10_done 119 = .ok (.isub, 1) := by decide +kernel
theorem dX10_done_120 : decode cX10_done 120 = .ok (.ireturn, 1) := by decide +kernel
theorem dX10_done_121 : decode cX10_done 121 = .ok (.iload_n 1, 1) := by decide +kernel
theorem dX10_done_122 : decode cX10_done 122 = .ok (.iload_n 2, 1) := by decide +kernel
theorem dX10_done_123 : decode cX10_done 123 = .ok (.imul, 1) := by decide +kernel
theorem dX10_done_124 : decode cX10_done 124 = .ok (.ireturn, 1) := by decide +kernel
theorem dX10_done_125 : decode cX10_done 125 = .ok (.iload_n 2, 1) := by decide +kernel
theorem dX10_done_126 : decode cX10_done 126 = .ok (.ifCond .ne 7, 3) := by decide +kernel
theorem dX10_done_129 : decode cX10_done 129 = .ok (.iconst 0, 1) := by decide +kernel
theorem dX10_done_130 : decode cX10_done 130 = .ok (.goto 6, 3) := by decide +kernel
theorem dX10_done_133 : decode cX10_done 133 = .ok (.iload_n 1, 1) := by decide +kernel
theorem dX10_done_134 : decode cX10_done 134 = .ok (.iload_n 2, 1) := by decide +kernel
theorem dX10_done_135 : decode cX10_done 135 = .ok (.idiv, 1) := by decide +kernel
theorem dX10_done_136 : decode cX10_done 136 = .ok (.ireturn, 1) := by decide +kernel
theorem dX10_done_137 : decode cX10_done 137 = .ok (.iload_n 2, 1) := by decide +kernel
theorem dX10_done_138 : decode cX10_done 138 = .ok (.ifCond .ne 7, 3) := by decide +kernel
theorem dX10_done_141 : decode cX10_done 141 = .ok (.iconst 0, 1) := by decide +kernel
theorem dX10_done_142 : decode cX10_done 142 = .ok (.goto 6, 3) := by decide +kernel
theorem dX10_done_145 : decode cX10_done 145 = .ok (.iload_n 1, 1) := by decide +kernel
theorem dX10_done_146 : decode cX10_done 146 = .ok (.iload_n 2, 1) := by decide +kernel
theorem dX10_done_147 : decode cX10_done 147 = .ok (.irem, 1) := by decide +kernel
theorem dX10_done_148 : decode cX10_done 148 = .ok (.ireturn, 1) := by decide +kernel
theorem dX10_worked_0 : decode cX10_worked 0 = .ok (.iconst 0, 1) := by decide +kernel
theorem dX10_worked_1 : decode cX10_worked 1 = .ok (.istore_n 2, 1) := by decide +kernel
theorem dX10_worked_2 : decode cX10_worked 2 = .ok (.iload_n 1, 1) := by decide +kernel
theorem dX10_worked_3 : decode cX10_worked 3 = .ok (.istore_n 3, 1) := by decide +kernel
theorem dX10_worked_4 : decode cX10_worked 4 = .ok (.iload_n 3, 1) := by decide +kernel
theorem dX10_worked_5 : decode cX10_worked 5 = .ok (.iload_n 1, 1) := by decide +kernel
theorem dX10_worked_6 : decode cX10_worked 6 = .ok (.aload_n 0, 1) := by decide +kernel
theorem dX10_worked_7 : decode cX10_worked 7 = .ok (.getfield 9, 3) := by decide +kernel
theorem dX10_worked_10 : decode cX10_worked 10 = .ok (.iload_n 1, 1) := by decide +kernel
theorem dX10_worked_11 : decode cX10_worked 11 = .ok (.iconst 1, 1) := by decide +kernel
theorem dX10_worked_12 : decode cX10_worked 12 = .ok (.isub, 1) := by decide +kernel
theorem dX10_worked_13 : decode cX10_worked 13 = .ok (.iaload, 1) := by decide +kernel
theorem dX10_worked_14 : decode cX10_worked 14 = .ok (.iadd, 1) := by decide +kernel
theorem dX10_worked_15 : decode cX10_worked 15 = .ok (.if_icmp .ge 126, 3) := by decide +kernel
theorem dX10_worked_18 : decode cX10_worked 18 = .ok (.aload_n 0, 1) := by decide +kernel
theorem dX10_worked_19 : decode cX10_worked 19 = .ok (.getfield 9, 3) := by decide +kernel
theorem dX10_worked_22 : decode cX10_worked 22 = .ok (.iload_n 3, 1) := by decide +kernel
theorem dX10_worked_23 : decode cX10_worked 23 = .ok (.iaload, 1) := by decide +kernel
theorem dX10_worked_24 : decode cX10_worked 24 = .ok (.istore 4, 2) := by decide +kernel
theorem dX10_worked_26 : decode cX10_worked 26 = .ok (.iload 4, 2) := by decide +kernel
theorem dX10_worked_28 : decode cX10_worked 28 = .ok (.sipush 20000, 3) := by decide +kernel
theorem dX10_worked_31 : decode cX10_worked 31 = .ok (.if_icmp .ge 39, 3) := by decide +kernel
theorem dX10_worked_34 : decode cX10_worked 34 = .ok (.aload_n 0, 1) := by decide +kernel
theorem dX10_worked_35 : decode cX10_worked 35 = .ok (.getfield 38, 3) := by decide +kernel
theorem dX10_worked_38 : decode cX10_worked 38 = .ok (.iload_n 2, 1) := by decide +kernel
theorem dX10_worked_39 : decode cX10_worked 39 = .ok (.iload 4, 2) := by decide +kernel
theorem dX10_worked_41 : decode cX10_worked 41 = .ok (.sipush 10000, 3) := by decide +kernel
theorem dX10_worked_44 : decode cX10_worked 44 = .ok (.if_icmp .ge 8, 3) := by decide +kernel
theorem dX10_worked_47 : decode cX10_worked 47 = .ok (.iload 4, 2) := by decide +kernel
theorem dX10_worked_49 : decode cX10_worked 49 = .ok (.goto 14, 3) := by decide +kernel
theorem dX10_worked_52 : decode cX10_worked 52 = .ok (.aload_n 0, 1) := by decide +kernel
theorem dX10_worked_53 : decode cX10_worked 53 = .ok (.getfield 35, 3) := by decide +kernel
theorem dX10_worked_56 : decode cX10_worked 56 = .ok (.iload 4, 2) := by decide +kernel
theorem dX10_worked_58 : decode cX10_worked 58 = .ok (.sipush 10000, 3) := by decide +kernel
theorem dX10_worked_61 : decode cX10_worked 61 = .ok (.isub, 1) := by decide +kernel
theorem dX10_worked_62 : decode cX10_worked 62 = .ok (.iaload, 1) := by decide +kernel
theorem dX10_worked_63 : decode cX10_worked 63 = .ok (.iastore, 1) := by decide +kernel
theorem dX10_worked_64 : decode cX10_worked 64 = .ok (.iinc 2 1, 3) := by decide +kernel
theorem dX10_worked_67 : decode cX10_worked 67 = .ok (.goto 68, 3) := by decide +kernel
theorem dX10_worked_70 : decode cX10_worked 70 = .ok (.iload 4, 2) := by decide +kernel
theorem dX10_worked_72 : decode cX10_worked 72 = .ok (.sipush 20010, 3) := by decide +kernel
theorem dX10_worked_75 : decode cX10_worked 75 = .ok (.if_icmp .ne 30, 3) := by decide +kernel
theorem dX10_worked_78 : decode cX10_worked 78 = .ok (.aload_n 0, 1) := by decide +kernel
theorem dX10_worked_79 : decode cX10_worked 79 = .ok (.getfield 38, 3) := by decide +kernel
theorem dX10_worked_82 : decode cX10_worked 82 = .ok (.iload_n 2, 1) := by decide +kernel
theorem dX10_worked_83 : decode cX10_worked 83 = .ok (.iconst 1, 1) := by decide +kernel
theorem dX10_worked_84 : decode cX10_worked 84 = .ok (.isub, 1) := by decide +kernel
theorem dX10_worked_85 : decode cX10_worked 85 = .ok (.aload_n 0, 1) := by decide +kernel
theorem dX10_worked_86 : decode cX10_worked 86 = .ok (.getfield 38, 3) := by decide +kernel
theorem dX10_worked_89 : decode cX10_worked 89 = .ok (.iload_n 2, 1) := by decide +kernel
theorem dX10_worked_90 : decode cX10_worked 90 = .ok (.iconst 1, 1) := by decide +kernel
theorem dX10_worked_91 : decode cX10_worked 91 = .ok (.isub, 1) := by decide +kernel
theorem dX10_worked_92 : decode cX10_worked 92 = .ok (.iaload, 1) := by decide +kernel
theorem dX10_worked_93 : decode cX10_worked 93 = .ok (.ifCond .ne 7, 3) := by decide +kernel
theorem dX10_worked_96 : decode cX10_worked 96 = .ok (.iconst 1, 1) := by decide +kernel
theorem dX10_worked_97 : decode cX10_worked 97 = .ok (.goto 4, 3) := by decide +kernel
theorem dX10_worked_100 : decode cX10_worked 100 = .ok (.iconst 0, 1) := by decide +kernel
theorem dX10_worked_101 : decode cX10_worked 101 = .ok (.iastore, 1) := by decide +kernel
theorem dX10_worked_102 : decode cX10_worked 102 = .ok (.goto 33, 3) := by decide +kernel
theorem dX10_worked_105 : decode cX10_worked 105 = .ok (.iinc 2 (-1), 3) := by decide +kernel
theorem dX10_worked_108 : decode cX10_worked 108 = .ok (.aload_n 0, 1) := by decide +kernel
theorem dX10_worked_109 : decode cX10_worked 109 = .ok (.getfield 38, 3) := by decide +kernel
theorem dX10_worked_112 : decode cX10_worked 112 = .ok (.iload_n 2, 1) := by decide +kernel
theorem dX10_worked_113 : decode cX10_worked 113 = .ok (.iconst 1, 1) := by decide +kernel
theorem dX10_worked_114 : decode cX10_worked 114 = .ok (.isub, 1) := by decide +kernel
theorem dX10_worked_115 : decode cX10_worked 115 = .ok (.iload 4, 2) := by decide +kernel
theorem dX10_worked_117 : decode cX10_worked 117 = .ok (.aload_n 0, 1) := by decide +kernel
theorem dX10_worked_118 : decode cX10_worked 118 = .ok (.getfield 38, 3) := by decide +kernel
theorem dX10_worked_121 : decode cX10_worked 121 = .ok (.iload_n 2, 1) := by decide +kernel
theorem dX10_worked_122 : decode cX10_worked 122 = .ok (.iconst 1, 1) := by decide +kernel
theorem dX10_worked_123 : decode cX10_worked 123 = .ok (.isub, 1) := by decide +kernel
theorem dX10_worked_124 : decode cX10_worked 124 = .ok (.iaload, 1) := by decide +kernel
theorem dX10_worked_125 : decode cX10_worked 125 = .ok (.aload_n 0, 1) := by decide +kernel
theorem dX10_worked_126 : decode cX10_worked 126 = .ok (.getfield 38, 3) := by decide +kernel
theorem dX10_worked_129 : decode cX10_worked 129 = .ok (.iload_n 2, 1) := by decide +kernel
theorem dX10_worked_130 : decode cX10_worked 130 = .ok (.iaload, 1) := by decide +kernel
theorem dX10_worked_131 : decode cX10_worked 131 = .ok (.invokestatic 139, 3) := by decide +kernel
theorem dX10_worked_134 : decode cX10_worked 134 = .ok (.iastore, 1) := by decide +kernel
theorem dX10_worked_135 : decode cX10_worked 135 = .ok (.iinc 3 1, 3) := by decide +kernel
theorem dX10_worked_138 : decode cX10_worked 138 = .ok (.goto (-134), 3) := by decide +kernel
theorem dX10_worked_141 : decode cX10_worked 141 = .ok (.aload_n 0, 1) := by decide +kernel
theorem dX10_worked_142 : decode cX10_worked 142 = .ok (.getfield 38, 3) := by decide +kernel
theorem dX10_worked_145 : decode cX10_worked 145 = .ok (.iconst 0, 1) := by decide +kernel
theorem dX10_worked_146 : decode cX10_worked 146 = .ok (.iaload, 1) := by decide +kernel
theorem dX10_worked_147 : decode cX10_worked 147 = .ok (.ireturn, 1) := by decide +kernel
theorem dX10_hasText_0 : decode cX10_hasText 0 = .ok (.aload_n 0, 1) := by decide +kernel
theorem dX10_hasText_1 : decode cX10_hasText 1 = .ok (.getfield 9, 3) := by decide +kernel
theorem dX10_hasText_4 : decode cX10_hasText 4 = .ok (.sipush 175, 3) := by decide +kernel
theorem dX10_hasText_7 : decode cX10_hasText 7 = .ok (.bipush 52, 2) := by decide +kernel
theorem dX10_hasText_9 : decode cX10_hasText 9 = .ok (.iload_n 1, 1) := by decide +kernel
theorem dX10_hasText_10 : decode cX10_hasText 10 = .ok (.imul, 1) := by decide +kernel
theorem dX10_hasText_11 : decode cX10_hasText 11 = .ok (.iadd, 1) := by decide +kernel
theorem dX10_hasText_12 : decode cX10_hasText 12 = .ok (.iaload, 1) := by decide +kernel
theorem dX10_hasText_13 : decode cX10_hasText 13 = .ok (.ifCond .le 7, 3) := by decide +kernel
theorem dX10_hasText_16 : decode cX10_hasText 16 = .ok (.iconst 1, 1) := by decide +kernel
theorem dX10_hasText_17 : decode cX10_hasText 17 = .ok (.goto 4, 3) := by decide +kernel
theorem dX10_hasText_20 : decode cX10_hasText 20 = .ok (.iconst 0, 1) := by decide +kernel
theorem dX10_hasText_21 : decode cX10_hasText 21 = .ok (.ireturn, 1) := by decide +kernel
theorem dX10_given_0 : decode cX10_given 0 = .ok (.aload_n 0, 1) := by decide +kernel
theorem dX10_given_1 : decode cX10_given 1 = .ok (.getfield 35, 3) := by decide +kernel
theorem dX10_given_4 : decode cX10_given 4 = .ok (.iconst 0, 1) := by decide +kernel
theorem dX10_given_5 : decode cX10_given 5 = .ok (.iload_n 2, 1) := by decide +kernel
theorem dX10_given_6 : decode cX10_given 6 = .ok (.iastore, 1) := by decide +kernel
theorem dX10_given_7 : decode cX10_given 7 = .ok (.aload_n 0, 1) := by decide +kernel
theorem dX10_given_8 : decode cX10_given 8 = .ok (.getfield 35, 3) := by decide +kernel
theorem dX10_given_11 : decode cX10_given 11 = .ok (.iconst 1, 1) := by decide +kernel
theorem dX10_given_12 : decode cX10_given 12 = .ok (.iload_n 3, 1) := by decide +kernel
theorem dX10_given_13 : decode cX10_given 13 = .ok (.iastore, 1) := by decide +kernel
theorem dX10_given_14 : decode cX10_given 14 = .ok (.aload_n 0, 1) := by decide +kernel
theorem dX10_given_15 : decode cX10_given 15 = .ok (.getfield 35, 3) := by decide +kernel
theorem dX10_given_18 : decode cX10_given 18 = .ok (.iconst 2, 1) := by decide +kernel
theorem dX10_given_19 : decode cX10_given 19 = .ok (.iload 4, 2) := by decide +kernel
theorem dX10_given_21 : decode cX10_given 21 = .ok (.iastore, 1) := by decide +kernel
theorem dX10_given_22 : decode cX10_given 22 = .ok (.iload_n 1, 1) := by decide +kernel
theorem dX10_given_23 : decode cX10_given 23 = .ok (.ifCond .ne 10, 3) := by decide +kernel
theorem dX10_given_26 : decode cX10_given 26 = .ok (.iload_n 2, 1) := by decide +kernel
theorem dX10_given_27 : decode cX10_given 27 = .ok (.iload 4, 2) := by decide +kernel
theorem dX10_given_29 : decode cX10_given 29 = .ok (.iadd, 1) := by decide +kernel
theorem dX10_given_30 : decode cX10_given 30 = .ok (.goto 8, 3) := by decide +kernel
theorem dX10_given_33 : decode cX10_given 33 = .ok (.iload_n 2, 1) := by decide +kernel
theorem dX10_given_34 : decode cX10_given 34 = .ok (.iload_n 2, 1) := by decide +kernel
theorem dX10_given_35 : decode cX10_given 35 = .ok (.iconst 4, 1) := by decide +kernel
theorem dX10_given_36 : decode cX10_given 36 = .ok (.idiv, 1) := by decide +kernel
theorem dX10_given_37 : decode cX10_given 37 = .ok (.isub, 1) := by decide +kernel
theorem dX10_given_38 : decode cX10_given 38 = .ok (.istore 5, 2) := by decide +kernel
theorem dX10_given_40 : decode cX10_given 40 = .ok (.aload_n 0, 1) := by decide +kernel
theorem dX10_given_41 : decode cX10_given 41 = .ok (.iload_n 1, 1) := by decide +kernel
theorem dX10_given_42 : decode cX10_given 42 = .ok (.invokevirtual 143, 3) := by decide +kernel
theorem dX10_given_45 : decode cX10_given 45 = .ok (.ifCond .eq 20, 3) := by decide +kernel
theorem dX10_given_48 : decode cX10_given 48 = .ok (.aload_n 0, 1) := by decide +kernel
theorem dX10_given_49 : decode cX10_given 49 = .ok (.sipush 175, 3) := by decide +kernel
theorem dX10_given_52 : decode cX10_given 52 = .ok (.bipush 52, 2) := by decide +kernel
theorem dX10_given_54 : decode cX10_given 54 = .ok (.iload_n 1, 1) := by decide +kernel
theorem dX10_given_55 : decode cX10_given 55 = .ok (.imul, 1) := by decide +kernel
theorem dX10_given_56 : decode cX10_given 56 = .ok (.iadd, 1) := by decide +kernel
theorem dX10_given_57 : decode cX10_given 57 = .ok (.iconst 1, 1) := by decide +kernel
theorem dX10_given_58 : decode cX10_given 58 = .ok (.iadd, 1) := by decide +kernel
theorem dX10_given_59 : decode cX10_given 59 = .ok (.invokevirtual 146, 3) := by decide +kernel
theorem dX10_given_62 : decode cX10_given 62 = .ok (.goto 5, 3) := by decide +kernel
theorem dX10_given_65 : decode cX10_given 65 = .ok (.iload 5, 2) := by decide +kernel
theorem dX10_given_67 : decode cX10_given 67 = .ok (.iconst 0, 1) := by decide +kernel
theorem dX10_given_68 : decode cX10_given 68 = .ok (.bipush 99, 2) := by decide +kernel
theorem dX10_given_70 : decode cX10_given 70 = .ok (.invokestatic 149, 3) := by decide +kernel
theorem dX10_given_73 : decode cX10_given 73 = .ok (.ireturn, 1) := by decide +kernel
theorem dX10_law_0 : decode cX10_law 0 = .ok (.iload_n 1, 1) := by decide +kernel
theorem dX10_law_1 : decode cX10_law 1 = .ok (.iconst 0, 1) := by decide +kernel
theorem dX10_law_2 : decode cX10_law 2 = .ok (.iconst 1, 1) := by decide +kernel
theorem dX10_law_3 : decode cX10_law 3 = .ok (.invokestatic 70, 3) := by decide +kernel
theorem dX10_law_6 : decode cX10_law 6 = .ok (.ifCond .eq 15, 3) := by decide +kernel
theorem dX10_law_9 : decode cX10_law 9 = .ok (.aload_n 0, 1) := by decide +kernel
theorem dX10_law_10 : decode cX10_law 10 = .ok (.iload_n 1, 1) := by decide +kernel
theorem dX10_law_11 : decode cX10_law 11 = .ok (.iload_n 2, 1) := by decide +kernel
theorem dX10_law_12 : decode cX10_law 12 = .ok (.iload_n 3, 1) := by decide +kernel
theorem dX10_law_13 : decode cX10_law 13 = .ok (.iload 4, 2) := by decide +kernel
theorem dX10_law_15 : decode cX10_law 15 = .ok (.invokevirtual 152, 3) := by decide +kernel
theorem dX10_law_18 : decode cX10_law 18 = .ok (.goto 9, 3) := by decide +kernel
theorem dX10_law_21 : decode cX10_law 21 = .ok (.aload_n 0, 1) := by decide +kernel
theorem dX10_law_22 : decode cX10_law 22 = .ok (.ldc 74, 2) := by decide +kernel
theorem dX10_law_24 : decode cX10_law 24 = .ok (.invokevirtual 75, 3) := by decide +kernel
theorem dX10_law_27 : decode cX10_law 27 = .ok (.ireturn, 1) := by decide +kernel
theorem dX10_isAsh_0 : decode cX10_isAsh 0 = .ok (.iload_n 1, 1) := by decide +kernel
theorem dX10_isAsh_1 : decode cX10_isAsh 1 = .ok (.iconst 0, 1) := by decide +kernel
theorem dX10_isAsh_2 : decode cX10_isAsh 2 = .ok (.aload_n 0, 1) := by decide +kernel
theorem dX10_isAsh_3 : decode cX10_isAsh 3 = .ok (.getfield 9, 3) := by decide +kernel
theorem dX10_isAsh_6 : decode cX10_isAsh 6 = .ok (.iconst 1, 1) := by decide +kernel
theorem dX10_isAsh_7 : decode cX10_isAsh 7 = .ok (.iaload, 1) := by decide +kernel
theorem dX10_isAsh_8 : decode cX10_isAsh 8 = .ok (.iconst 1, 1) := by decide +kernel
theorem dX10_isAsh_9 : decode cX10_isAsh 9 = .ok (.isub, 1) := by decide +kernel
theorem dX10_isAsh_10 : decode cX10_isAsh 10 = .ok (.invokestatic 70, 3) := by decide +kernel
theorem dX10_isAsh_13 : decode cX10_isAsh 13 = .ok (.ireturn, 1) := by decide +kernel
theorem dX10_isPotter_0 : decode cX10_isPotter 0 = .ok (.iload_n 1, 1) := by decide +kernel
theorem dX10_isPotter_1 : decode cX10_isPotter 1 = .ok (.iconst 0, 1) := by decide +kernel
theorem dX10_isPotter_2 : decode cX10_isPotter 2 = .ok (.aload_n 0, 1) := by decide +kernel
theorem dX10_isPotter_3 : decode cX10_isPotter 3 = .ok (.getfield 9, 3) := by decide +kernel
theorem dX10_isPotter_6 : decode cX10_isPotter 6 = .ok (.iconst 2, 1) := by decide +kernel
theorem dX10_isPotter_7 : decode cX10_isPotter 7 = .ok (.iaload, 1) := by decide +kernel
theorem dX10_isPotter_8 : decode cX10_isPotter 8 = .ok (.iconst 1, 1) := by decide +kernel
theorem dX10_isPotter_9 : decode cX10_isPotter 9 = .ok (.isub, 1) := by decide +kernel
theorem dX10_isPotter_10 : decode cX10_isPotter 10 = .ok (.invokestatic 70, 3) := by decide +kernel
theorem dX10_isPotter_13 : decode cX10_isPotter 13 = .ok (.ireturn, 1) := by decide +kernel
theorem dX10_isLoan_0 : decode cX10_isLoan 0 = .ok (.iload_n 1, 1) := by decide +kernel
theorem dX10_isLoan_1 : decode cX10_isLoan 1 = .ok (.iconst 0, 1) := by decide +kernel
theorem dX10_isLoan_2 : decode cX10_isLoan 2 = .ok (.aload_n 0, 1) := by decide +kernel
theorem dX10_isLoan_3 : decode cX10_isLoan 3 = .ok (.getfield 9, 3) := by decide +kernel
theorem dX10_isLoan_6 : decode cX10_isLoan 6 = .ok (.iconst 3, 1) := by decide +kernel
theorem dX10_isLoan_7 : decode cX10_isLoan 7 = .ok (.iaload, 1) := by decide +kernel
theorem dX10_isLoan_8 : decode cX10_isLoan 8 = .ok (.iconst 1, 1) := by decide +kernel
theorem dX10_isLoan_9 : decode cX10_isLoan 9 = .ok (.isub, 1) := by decide +kernel
theorem dX10_isLoan_10 : decode cX10_isLoan 10 = .ok (.invokestatic 70, 3) := by decide +kernel
theorem dX10_isLoan_13 : decode cX10_isLoan 13 = .ok (.ireturn, 1) := by decide +kernel
theorem dX10_isKindM_0 : decode cX10_isKindM 0 = .ok (.iload_n 0, 1) := by decide +kernel
theorem dX10_isKindM_1 : decode cX10_isKindM 1 = .ok (.iconst 0, 1) := by decide +kernel
theorem dX10_isKindM_2 : decode cX10_isKindM 2 = .ok (.bipush 69, 2) := by decide +kernel
theorem dX10_isKindM_4 : decode cX10_isKindM 4 = .ok (.invokestatic 70, 3) := by decide +kernel
theorem dX10_isKindM_7 : decode cX10_isKindM 7 = .ok (.ireturn, 1) := by decide +kernel
theorem dX10_isDigit_0 : decode cX10_isDigit 0 = .ok (.iload_n 0, 1) := by decide +kernel
theorem dX10_isDigit_1 : decode cX10_isDigit 1 = .ok (.iconst 0, 1) := by decide +kernel
theorem dX10_isDigit_2 : decode cX10_isDigit 2 = .ok (.bipush 9, 2) := by decide +kernel
theorem dX10_isDigit_4 : decode cX10_isDigit 4 = .ok (.invokestatic 70, 3) := by decide +kernel
theorem dX10_isDigit_7 : decode cX10_isDigit 7 = .ok (.ireturn, 1) := by decide +kernel
theorem dX10_ashAt_0 : decode cX10_ashAt 0 = .ok (.bipush 7, 2) := by decide +kernel
theorem dX10_ashAt_2 : decode cX10_ashAt 2 = .ok (.iconst 4, 1) := by decide +kernel
theorem dX10_ashAt_3 : decode cX10_ashAt 3 = .ok (.iload_n 0, 1) := by decide +kernel
theorem dX10_ashAt_4 : decode cX10_ashAt 4 = .ok (.imul, 1) := by decide +kernel
theorem dX10_ashAt_5 : decode cX10_ashAt 5 = .ok (.iadd, 1) := by decide +kernel
theorem dX10_ashAt_6 : decode cX10_ashAt 6 = .ok (.iload_n 1, 1) := by decide +kernel
theorem dX10_ashAt_7 : decode cX10_ashAt 7 = .ok (.iadd, 1) := by decide +kernel
theorem dX10_ashAt_8 : decode cX10_ashAt 8 = .ok (.ireturn, 1) := by decide +kernel
theorem dX10_ashIs_0 : decode cX10_ashIs 0 = .ok (.aload_n 0, 1) := by decide +kernel
theorem dX10_ashIs_1 : decode cX10_ashIs 1 = .ok (.getfield 9, 3) := by decide +kernel
theorem dX10_ashIs_4 : decode cX10_ashIs 4 = .ok (.iload_n 1, 1) := by decide +kernel
theorem dX10_ashIs_5 : decode cX10_ashIs 5 = .ok (.iload_n 2, 1) := by decide +kernel
theorem dX10_ashIs_6 : decode cX10_ashIs 6 = .ok (.invokestatic 156, 3) := by decide +kernel
theorem dX10_ashIs_9 : decode cX10_ashIs 9 = .ok (.iaload, 1) := by decide +kernel
theorem dX10_ashIs_10 : decode cX10_ashIs 10 = .ok (.ireturn, 1) := by decide +kernel
theorem dX10_potterAt_0 : decode cX10_potterAt 0 = .ok (.bipush 27, 2) := by decide +kernel
theorem dX10_potterAt_2 : decode cX10_potterAt 2 = .ok (.bipush 7, 2) := by decide +kernel
theorem dX10_potterAt_4 : decode cX10_potterAt 4 = .ok (.iload_n 0, 1) := by decide +kernel
theorem dX10_potterAt_5 : decode cX10_potterAt 5 = .ok (.imul, 1) := by decide +kernel
theorem dX10_potterAt_6 : decode cX10_potterAt 6 = .ok (.iadd, 1) := by decide +kernel
theorem dX10_potterAt_7 : decode cX10_potterAt 7 = .ok (.iload_n 1, 1) := by decide +kernel
theorem dX10_potterAt_8 : decode cX10_potterAt 8 = .ok (.iadd, 1) := by decide +kernel
theorem dX10_potterAt_9 : decode cX10_potterAt 9 = .ok (.ireturn, 1) := by decide +kernel
theorem dX10_storeAt_0 : decode cX10_storeAt 0 = .ok (.bipush 27, 2) := by decide +kernel
theorem dX10_storeAt_2 : decode cX10_storeAt 2 = .ok (.bipush 7, 2) := by decide +kernel
theorem dX10_storeAt_4 : decode cX10_storeAt 4 = .ok (.iload_n 0, 1) := by decide +kernel
theorem dX10_storeAt_5 : decode cX10_storeAt 5 = .ok (.imul, 1) := by decide +kernel
theorem dX10_storeAt_6 : decode cX10_storeAt 6 = .ok (.iadd, 1) := by decide +kernel
theorem dX10_storeAt_7 : decode cX10_storeAt 7 = .ok (.iconst 2, 1) := by decide +kernel
theorem dX10_storeAt_8 : decode cX10_storeAt 8 = .ok (.iadd, 1) := by decide +kernel
theorem dX10_storeAt_9 : decode cX10_storeAt 9 = .ok (.iload_n 1, 1) := by decide +kernel
theorem dX10_storeAt_10 : decode cX10_storeAt 10 = .ok (.iadd, 1) := by decide +kernel
theorem dX10_storeAt_11 : decode cX10_storeAt 11 = .ok (.ireturn, 1) := by decide +kernel
theorem dX10_loanAt_0 : decode cX10_loanAt 0 = .ok (.bipush 55, 2) := by decide +kernel
theorem dX10_loanAt_2 : decode cX10_loanAt 2 = .ok (.iconst 5, 1) := by decide +kernel
theorem dX10_loanAt_3 : decode cX10_loanAt 3 = .ok (.iload_n 0, 1) := by decide +kernel
theorem dX10_loanAt_4 : decode cX10_loanAt 4 = .ok (.imul, 1) := by decide +kernel
theorem dX10_loanAt_5 : decode cX10_loanAt 5 = .ok (.iadd, 1) := by decide +kernel
theorem dX10_loanAt_6 : decode cX10_loanAt 6 = .ok (.iload_n 1, 1) := by decide +kernel
theorem dX10_loanAt_7 : decode cX10_loanAt 7 = .ok (.iadd, 1) := by decide +kernel
theorem dX10_loanAt_8 : decode cX10_loanAt 8 = .ok (.ireturn, 1) := by decide +kernel
theorem dX10_loanIs_0 : decode cX10_loanIs 0 = .ok (.aload_n 0, 1) := by decide +kernel
theorem dX10_loanIs_1 : decode cX10_loanIs 1 = .ok (.getfield 9, 3) := by decide +kernel
theorem dX10_loanIs_4 : decode cX10_loanIs 4 = .ok (.iload_n 1, 1) := by decide +kernel
theorem dX10_loanIs_5 : decode cX10_loanIs 5 = .ok (.iload_n 2, 1) := by decide +kernel
theorem dX10_loanIs_6 : decode cX10_loanIs 6 = .ok (.invokestatic 159, 3) := by decide +kernel
theorem dX10_loanIs_9 : decode cX10_loanIs 9 = .ok (.iaload, 1) := by decide +kernel
theorem dX10_loanIs_10 : decode cX10_loanIs 10 = .ok (.ireturn, 1) := by decide +kernel
theorem dX10_ashComes_0 : decode cX10_ashComes 0 = .ok (.aload_n 0, 1) := by decide +kernel
theorem dX10_ashComes_1 : decode cX10_ashComes 1 = .ok (.getfield 9, 3) := by decide +kernel
theorem dX10_ashComes_4 : decode cX10_ashComes 4 = .ok (.iconst 1, 1) := by decide +kernel
theorem dX10_ashComes_5 : decode cX10_ashComes 5 = .ok (.iaload, 1) := by decide +kernel
theorem dX10_ashComes_6 : decode cX10_ashComes 6 = .ok (.istore_n 2, 1) := by decide +kernel
theorem dX10_ashComes_7 : decode cX10_ashComes 7 = .ok (.aload_n 0, 1) := by decide +kernel
theorem dX10_ashComes_8 : decode cX10_ashComes 8 = .ok (.getfield 9, 3) := by decide +kernel
theorem dX10_ashComes_11 : decode cX10_ashComes 11 = .ok (.iload_n 2, 1) := by decide +kernel
theorem dX10_ashComes_12 : decode cX10_ashComes 12 = .ok (.iconst 0, 1) := by decide +kernel
theorem dX10_ashComes_13 : decode cX10_ashComes 13 = .ok (.invokestatic 156, 3) := by decide +kernel
theorem dX10_ashComes_16 : decode cX10_ashComes 16 = .ok (.iload_n 1, 1) := by decide +kernel
theorem dX10_ashComes_17 : decode cX10_ashComes 17 = .ok (.bipush 10, 2) := by decide +kernel
theorem dX10_ashComes_19 : decode cX10_ashComes 19 = .ok (.idiv, 1) := by decide +kernel
theorem dX10_ashComes_20 : decode cX10_ashComes 20 = .ok (.iastore, 1) := by decide +kernel
theorem dX10_ashComes_21 : decode cX10_ashComes 21 = .ok (.aload_n 0, 1) := by decide +kernel
theorem dX10_ashComes_22 : decode cX10_ashComes 22 = .ok (.getfield 9, 3) := by decide +kernel
theorem dX10_ashComes_25 : decode cX10_ashComes 25 = .ok (.iload_n 2, 1) := by decide +kernel
theorem dX10_ashComes_26 : decode cX10_ashComes 26 = .ok (.iconst 1, 1) := by decide +kernel
theorem dX10_ashComes_27 : decode cX10_ashComes 27 = .ok (.invokestatic 156, 3) := by decide +kernel
theorem dX10_ashComes_30 : decode cX10_ashComes 30 = .ok (.iload_n 1, 1) := by decide +kernel
theorem dX10_ashComes_31 : decode cX10_ashComes 31 = .ok (.bipush 10, 2) := by decide +kernel
theorem dX10_ashComes_33 : decode cX10_ashComes 33 = .ok (.irem, 1) := by decide +kernel
theorem dX10_ashComes_34 : decode cX10_ashComes 34 = .ok (.iastore, 1) := by decide +kernel
theorem dX10_ashComes_35 : decode cX10_ashComes 35 = .ok (.aload_n 0, 1) := by decide +kernel
theorem dX10_ashComes_36 : decode cX10_ashComes 36 = .ok (.getfield 9, 3) := by decide +kernel
theorem dX10_ashComes_39 : decode cX10_ashComes 39 = .ok (.iload_n 2, 1) := by decide +kernel
theorem dX10_ashComes_40 : decode cX10_ashComes 40 = .ok (.iconst 2, 1) := by decide +kernel
theorem dX10_ashComes_41 : decode cX10_ashComes 41 = .ok (.invokestatic 156, 3) := by decide +kernel
theorem dX10_ashComes_44 : decode cX10_ashComes 44 = .ok (.iconst 0, 1) := by decide +kernel
theorem dX10_ashComes_45 : decode cX10_ashComes 45 = .ok (.iastore, 1) := by decide +kernel
theorem dX10_ashComes_46 : decode cX10_ashComes 46 = .ok (.aload_n 0, 1) := by decide +kernel
theorem dX10_ashComes_47 : decode cX10_ashComes 47 = .ok (.getfield 9, 3) := by decide +kernel
theorem dX10_ashComes_50 : decode cX10_ashComes 50 = .ok (.iload_n 2, 1) := by decide +kernel
theorem dX10_ashComes_51 : decode cX10_ashComes 51 = .ok (.iconst 3, 1) := by decide +kernel
theorem dX10_ashComes_52 : decode cX10_ashComes 52 = .ok (.invokestatic 156, 3) := by decide +kernel
theorem dX10_ashComes_55 : decode cX10_ashComes 55 = .ok (.iconst 0, 1) := by decide +kernel
theorem dX10_ashComes_56 : decode cX10_ashComes 56 = .ok (.iastore, 1) := by decide +kernel
theorem dX10_ashComes_57 : decode cX10_ashComes 57 = .ok (.iconst 0, 1) := by decide +kernel
theorem dX10_ashComes_58 : decode cX10_ashComes 58 = .ok (.istore_n 3, 1) := by decide +kernel
theorem dX10_ashComes_59 : decode cX10_ashComes 59 = .ok (.iload_n 3, 1) := by decide +kernel
theorem dX10_ashComes_60 : decode cX10_ashComes 60 = .ok (.iconst 4, 1) := by decide +kernel
theorem dX10_ashComes_61 : decode cX10_ashComes 61 = .ok (.if_icmp .ge 20, 3) := by decide +kernel
theorem dX10_ashComes_64 : decode cX10_ashComes 64 = .ok (.aload_n 0, 1) := by decide +kernel
theorem dX10_ashComes_65 : decode cX10_ashComes 65 = .ok (.getfield 9, 3) := by decide +kernel
theorem dX10_ashComes_68 : decode cX10_ashComes 68 = .ok (.iload_n 3, 1) := by decide +kernel
theorem dX10_ashComes_69 : decode cX10_ashComes 69 = .ok (.iload_n 2, 1) := by decide +kernel
theorem dX10_ashComes_70 : decode cX10_ashComes 70 = .ok (.invokestatic 162, 3) := by decide +kernel
theorem dX10_ashComes_73 : decode cX10_ashComes 73 = .ok (.iconst 0, 1) := by decide +kernel
theorem dX10_ashComes_74 : decode cX10_ashComes 74 = .ok (.iastore, 1) := by decide +kernel
theorem dX10_ashComes_75 : decode cX10_ashComes 75 = .ok (.iinc 3 1, 3) := by decide +kernel
theorem dX10_ashComes_78 : decode cX10_ashComes 78 = .ok (.goto (-19), 3) := by decide +kernel
theorem dX10_ashComes_81 : decode cX10_ashComes 81 = .ok (.aload_n 0, 1) := by decide +kernel
theorem dX10_ashComes_82 : decode cX10_ashComes 82 = .ok (.getfield 9, 3) := by decide +kernel
theorem dX10_ashComes_85 : decode cX10_ashComes 85 = .ok (.iconst 1, 1) := by decide +kernel
theorem dX10_ashComes_86 : decode cX10_ashComes 86 = .ok (.dup2, 1) := by decide +kernel
theorem dX10_ashComes_87 : decode cX10_ashComes 87 = .ok (.iaload, 1) := by decide +kernel
theorem dX10_ashComes_88 : decode cX10_ashComes 88 = .ok (.iconst 1, 1) := by decide +kernel
theorem dX10_ashComes_89 : decode cX10_ashComes 89 = .ok (.iadd, 1) := by decide +kernel
theorem dX10_ashComes_90 : decode cX10_ashComes 90 = .ok (.iastore, 1) := by decide +kernel
theorem dX10_ashComes_91 : decode cX10_ashComes 91 = .ok (.iload_n 2, 1) := by decide +kernel
theorem dX10_ashComes_92 : decode cX10_ashComes 92 = .ok (.ireturn, 1) := by decide +kernel
theorem dX10_ash_0 : decode cX10_ash 0 = .ok (.iload_n 1, 1) := by decide +kernel
theorem dX10_ash_1 : decode cX10_ash 1 = .ok (.invokestatic 165, 3) := by decide +kernel
theorem dX10_ash_4 : decode cX10_ash 4 = .ok (.ifCond .ne 10, 3) := by decide +kernel
theorem dX10_ash_7 : decode cX10_ash 7 = .ok (.aload_n 0, 1) := by decide +kernel
theorem dX10_ash_8 : decode cX10_ash 8 = .ok (.ldc 74, 2) := by decide +kernel
theorem dX10_ash_10 : decode cX10_ash 10 = .ok (.invokevirtual 75, 3) := by decide +kernel
theorem dX10_ash_13 : decode cX10_ash 13 = .ok (.ireturn, 1) := by decide +kernel
theorem dX10_ash_14 : decode cX10_ash 14 = .ok (.aload_n 0, 1) := by decide +kernel
theorem dX10_ash_15 : decode cX10_ash 15 = .ok (.getfield 9, 3) := by decide +kernel
theorem dX10_ash_18 : decode cX10_ash 18 = .ok (.iconst 1, 1) := by decide +kernel
theorem dX10_ash_19 : decode cX10_ash 19 = .ok (.iaload, 1) := by decide +kernel
theorem dX10_ash_20 : decode cX10_ash 20 = .ok (.iconst 5, 1) := by decide +kernel
theorem dX10_ash_21 : decode cX10_ash 21 = .ok (.if_icmp .ne 12, 3) := by decide +kernel
theorem dX10_ash_24 : decode cX10_ash 24 = .ok (.aload_n 0, 1) := by decide +kernel
theorem dX10_ash_25 : decode cX10_ash 25 = .ok (.ldc 79, 2) := by decide +kernel
theorem dX10_ash_27 : decode cX10_ash 27 = .ok (.invokevirtual 75, 3) := by decide +kernel
theorem dX10_ash_30 : decode cX10_ash 30 = .ok (.goto 8, 3) := by decide +kernel
theorem dX10_ash_33 : decode cX10_ash 33 = .ok (.aload_n 0, 1) := by decide +kernel
theorem dX10_ash_34 : decode cX10_ash 34 = .ok (.iload_n 1, 1) := by decide +kernel
theorem dX10_ash_35 : decode cX10_ash 35 = .ok (.invokevirtual 168, 3) := by decide +kernel
theorem dX10_ash_38 : decode cX10_ash 38 = .ok (.ireturn, 1) := by decide +kernel
theorem dX10_allOf_0 : decode cX10_allOf 0 = .ok (.iconst 0, 1) := by decide +kernel
theorem dX10_allOf_1 : decode cX10_allOf 1 = .ok (.istore_n 2, 1) := by decide +kernel
theorem dX10_allOf_2 : decode cX10_allOf 2 = .ok (.iconst 0, 1) := by decide +kernel
theorem dX10_allOf_3 : decode cX10_allOf 3 = .ok (.istore_n 3, 1) := by decide +kernel
theorem dX10_allOf_4 : decode cX10_allOf 4 = .ok (.iload_n 3, 1) := by decide +kernel
theorem dX10_allOf_5 : decode cX10_allOf 5 = .ok (.aload_n 0, 1) := by decide +kernel
theorem dX10_allOf_6 : decode cX10_allOf 6 = .ok (.getfield 9, 3) := by decide +kernel
theorem dX10_allOf_9 : decode cX10_allOf 9 = .ok (.iconst 2, 1) := by decide +kernel
theorem dX10_allOf_10 : decode cX10_allOf 10 = .ok (.iaload, 1) := by decide +kernel
theorem dX10_allOf_11 : decode cX10_allOf 11 = .ok (.if_icmp .ge 22, 3) := by decide +kernel
theorem dX10_allOf_14 : decode cX10_allOf 14 = .ok (.iload_n 2, 1) := by decide +kernel
theorem dX10_allOf_15 : decode cX10_allOf 15 = .ok (.aload_n 0, 1) := by decide +kernel
theorem dX10_allOf_16 : decode cX10_allOf 16 = .ok (.getfield 9, 3) := by decide +kernel
theorem dX10_allOf_19 : decode cX10_allOf 19 = .ok (.iload_n 3, 1) := by decide +kernel
theorem dX10_allOf_20 : decode cX10_allOf 20 = .ok (.iload_n 1, 1) := by decide +kernel
theorem dX10_allOf_21 : decode cX10_allOf 21 = .ok (.invokestatic 162, 3) := by decide +kernel
theorem dX10_allOf_24 : decode cX10_allOf 24 = .ok (.iaload, 1) := by decide +kernel
theorem dX10_allOf_25 : decode cX10_allOf 25 = .ok (.iadd, 1) := by decide +kernel
theorem dX10_allOf_26 : decode cX10_allOf 26 = .ok (.istore_n 2, 1) := by decide +kernel
theorem dX10_allOf_27 : decode cX10_allOf 27 = .ok (.iinc 3 1, 3) := by decide +kernel
theorem dX10_allOf_30 : decode cX10_allOf 30 = .ok (.goto (-26), 3) := by decide +kernel
theorem dX10_allOf_33 : decode cX10_allOf 33 = .ok (.iload_n 2, 1) := by decide +kernel
theorem dX10_allOf_34 : decode cX10_allOf 34 = .ok (.ireturn, 1) := by decide +kernel
theorem dX10_ofAsh_0 : decode cX10_ofAsh 0 = .ok (.aload_n 0, 1) := by decide +kernel
theorem dX10_ofAsh_1 : decode cX10_ofAsh 1 = .ok (.iload_n 1, 1) := by decide +kernel
theorem dX10_ofAsh_2 : decode cX10_ofAsh 2 = .ok (.invokevirtual 171, 3) := by decide +kernel
theorem dX10_ofAsh_5 : decode cX10_ofAsh 5 = .ok (.ifCond .eq 12, 3) := by decide +kernel
theorem dX10_ofAsh_8 : decode cX10_ofAsh 8 = .ok (.iload_n 2, 1) := by decide +kernel
theorem dX10_ofAsh_9 : decode cX10_ofAsh 9 = .ok (.iconst 0, 1) := by decide +kernel
theorem dX10_ofAsh_10 : decode cX10_ofAsh 10 = .ok (.iconst 4, 1) := by decide +kernel
theorem dX10_ofAsh_11 : decode cX10_ofAsh 11 = .ok (.invokestatic 70, 3) := by decide +kernel
theorem dX10_ofAsh_14 : decode cX10_ofAsh 14 = .ok (.ifCond .ne 10, 3) := by decide +kernel
theorem dX10_ofAsh_17 : decode cX10_ofAsh 17 = .ok (.aload_n 0, 1) := by decide +kernel
theorem dX10_ofAsh_18 : decode cX10_ofAsh 18 = .ok (.ldc 74, 2) := by decide +kernel
theorem dX10_ofAsh_20 : decode cX10_ofAsh 20 = .ok (.invokevirtual 75, 3) := by decide +kernel
theorem dX10_ofAsh_23 : decode cX10_ofAsh 23 = .ok (.ireturn, 1) := by decide +kernel
theorem dX10_ofAsh_24 : decode cX10_ofAsh 24 = .ok (.iload_n 2, 1) := by decide +kernel
theorem dX10_ofAsh_25 : decode cX10_ofAsh 25 = .ok (.iconst 4, 1) := by decide +kernel
theorem dX10_ofAsh_26 : decode cX10_ofAsh 26 = .ok (.if_icmp .ne 11, 3) := by decide +kernel
theorem dX10_ofAsh_29 : decode cX10_ofAsh 29 = .ok (.aload_n 0, 1) := by decide +kernel
theorem dX10_ofAsh_30 : decode cX10_ofAsh 30 = .ok (.iload_n 1, 1) := by decide +kernel
theorem dX10_ofAsh_31 : decode cX10_ofAsh 31 = .ok (.invokevirtual 174, 3) := by decide +kernel
theorem dX10_ofAsh_34 : decode cX10_ofAsh 34 = .ok (.goto 9, 3) := by decide +kernel
theorem dX10_ofAsh_37 : decode cX10_ofAsh 37 = .ok (.aload_n 0, 1) := by decide +kernel
theorem dX10_ofAsh_38 : decode cX10_ofAsh 38 = .ok (.iload_n 1, 1) := by decide +kernel
theorem dX10_ofAsh_39 : decode cX10_ofAsh 39 = .ok (.iload_n 2, 1) := by decide +kernel
theorem dX10_ofAsh_40 : decode cX10_ofAsh 40 = .ok (.invokevirtual 177, 3) := by decide +kernel
theorem dX10_ofAsh_43 : decode cX10_ofAsh 43 = .ok (.ireturn, 1) := by decide +kernel
theorem dX10_hedge_0 : decode cX10_hedge 0 = .ok (.aload_n 0, 1) := by decide +kernel
theorem dX10_hedge_1 : decode cX10_hedge 1 = .ok (.iload_n 1, 1) := by decide +kernel
theorem dX10_hedge_2 : decode cX10_hedge 2 = .ok (.invokevirtual 171, 3) := by decide +kernel
theorem dX10_hedge_5 : decode cX10_hedge 5 = .ok (.ifCond .eq 30, 3) := by decide +kernel
theorem dX10_hedge_8 : decode cX10_hedge 8 = .ok (.iload_n 2, 1) := by decide +kernel
theorem dX10_hedge_9 : decode cX10_hedge 9 = .ok (.iconst 0, 1) := by decide +kernel
theorem dX10_hedge_10 : decode cX10_hedge 10 = .ok (.iconst 1, 1) := by decide +kernel
theorem dX10_hedge_11 : decode cX10_hedge 11 = .ok (.invokestatic 70, 3) := by decide +kernel
theorem dX10_hedge_14 : decode cX10_hedge 14 = .ok (.ifCond .eq 21, 3) := by decide +kernel
theorem dX10_hedge_17 : decode cX10_hedge 17 = .ok (.iload_n 3, 1) := by decide +kernel
theorem dX10_hedge_18 : decode cX10_hedge 18 = .ok (.iconst 0, 1) := by decide +kernel
theorem dX10_hedge_19 : decode cX10_hedge 19 = .ok (.iload_n 2, 1) := by decide +kernel
theorem dX10_hedge_20 : decode cX10_hedge 20 = .ok (.ifCond .ne 8, 3) := by decide +kernel
theorem dX10_hedge_23 : decode cX10_hedge 23 = .ok (.bipush 9, 2) := by decide +kernel
theorem dX10_hedge_25 : decode cX10_hedge 25 = .ok (.goto 4, 3) := by decide +kernel
theorem dX10_hedge_28 : decode cX10_hedge 28 = .ok (.iconst 3, 1) := by decide +kernel
theorem dX10_hedge_29 : decode cX10_hedge 29 = .ok (.invokestatic 70, 3) := by decide +kernel
theorem dX10_hedge_32 : decode cX10_hedge 32 = .ok (.ifCond .ne 10, 3) := by decide +kernel
theorem dX10_hedge_35 : decode cX10_hedge 35 = .ok (.aload_n 0, 1) := by decide +kernel
theorem dX10_hedge_36 : decode cX10_hedge 36 = .ok (.ldc 74, 2) := by decide +kernel
theorem dX10_hedge_38 : decode cX10_hedge 38 = .ok (.invokevirtual 75, 3) := by decide +kernel
theorem dX10_hedge_41 : decode cX10_hedge 41 = .ok (.ireturn, 1) := by decide +kernel
theorem dX10_hedge_42 : decode cX10_hedge 42 = .ok (.aload_n 0, 1) := by decide +kernel
theorem dX10_hedge_43 : decode cX10_hedge 43 = .ok (.iload_n 1, 1) := by decide +kernel
theorem dX10_hedge_44 : decode cX10_hedge 44 = .ok (.iload_n 2, 1) := by decide +kernel
theorem dX10_hedge_45 : decode cX10_hedge 45 = .ok (.ifCond .ne 7, 3) := by decide +kernel
theorem dX10_hedge_48 : decode cX10_hedge 48 = .ok (.iconst 2, 1) := by decide +kernel
theorem dX10_hedge_49 : decode cX10_hedge 49 = .ok (.goto 4, 3) := by decide +kernel
theorem dX10_hedge_52 : decode cX10_hedge 52 = .ok (.iconst 3, 1) := by decide +kernel
theorem dX10_hedge_53 : decode cX10_hedge 53 = .ok (.invokestatic 156, 3) := by decide +kernel
theorem dX10_hedge_56 : decode cX10_hedge 56 = .ok (.iload_n 3, 1) := by decide +kernel
theorem dX10_hedge_57 : decode cX10_hedge 57 = .ok (.invokevirtual 180, 3) := by decide +kernel
theorem dX10_hedge_60 : decode cX10_hedge 60 = .ok (.ireturn, 1) := by decide +kernel
theorem dX10_become_0 : decode cX10_become 0 = .ok (.aload_n 0, 1) := by decide +kernel
theorem dX10_become_1 : decode cX10_become 1 = .ok (.iload_n 1, 1) := by decide +kernel
theorem dX10_become_2 : decode cX10_become 2 = .ok (.invokevirtual 171, 3) := by decide +kernel
theorem dX10_become_5 : decode cX10_become 5 = .ok (.ifCond .eq 10, 3) := by decide +kernel
theorem dX10_become_8 : decode cX10_become 8 = .ok (.iload_n 2, 1) := by decide +kernel
theorem dX10_become_9 : decode cX10_become 9 = .ok (.invokestatic 165, 3) := by decide +kernel
theorem dX10_become_12 : decode cX10_become 12 = .ok (.ifCond .ne 10, 3) := by decide +kernel
theorem dX10_become_15 : decode cX10_become 15 = .ok (.aload_n 0, 1) := by decide +kernel
theorem dX10_become_16 : decode cX10_become 16 = .ok (.ldc 74, 2) := by decide +kernel
theorem dX10_become_18 : decode cX10_become 18 = .ok (.invokevirtual 75, 3) := by decide +kernel
theorem dX10_become_21 : decode cX10_become 21 = .ok (.ireturn, 1) := by decide +kernel
theorem dX10_become_22 : decode cX10_become 22 = .ok (.aload_n 0, 1) := by decide +kernel
theorem dX10_become_23 : decode cX10_become 23 = .ok (.getfield 9, 3) := by decide +kernel
theorem dX10_become_26 : decode cX10_become 26 = .ok (.iload_n 1, 1) := by decide +kernel
theorem dX10_become_27 : decode cX10_become 27 = .ok (.iconst 1, 1) := by decide +kernel
theorem dX10_become_28 : decode cX10_become 28 = .ok (.invokestatic 156, 3) := by decide +kernel
theorem dX10_become_31 : decode cX10_become 31 = .ok (.iload_n 2, 1) := by decide +kernel
theorem dX10_become_32 : decode cX10_become 32 = .ok (.bipush 10, 2) := by decide +kernel
theorem dX10_become_34 : decode cX10_become 34 = .ok (.irem, 1) := by decide +kernel
theorem dX10_become_35 : decode cX10_become 35 = .ok (.iastore, 1) := by decide +kernel
theorem dX10_become_36 : decode cX10_become 36 = .ok (.aload_n 0, 1) := by decide +kernel
theorem dX10_become_37 : decode cX10_become 37 = .ok (.iload_n 1, 1) := by decide +kernel
theorem dX10_become_38 : decode cX10_become 38 = .ok (.iconst 0, 1) := by decide +kernel
theorem dX10_become_39 : decode cX10_become 39 = .ok (.invokestatic 156, 3) := by decide +kernel
theorem dX10_become_42 : decode cX10_become 42 = .ok (.iload_n 2, 1) := by decide +kernel
theorem dX10_become_43 : decode cX10_become 43 = .ok (.bipush 10, 2) := by decide +kernel
theorem dX10_become_45 : decode cX10_become 45 = .ok (.idiv, 1) := by decide +kernel
theorem dX10_become_46 : decode cX10_become 46 = .ok (.invokevirtual 180, 3) := by decide +kernel
theorem dX10_become_49 : decode cX10_become 49 = .ok (.ireturn, 1) := by decide +kernel
theorem dX10_above_0 : decode cX10_above 0 = .ok (.iload_n 0, 1) := by decide +kernel
theorem dX10_above_1 : decode cX10_above 1 = .ok (.ifCond .ne 7, 3) := by decide +kernel
theorem dX10_above_4 : decode cX10_above 4 = .ok (.iconst (-1), 1) := by decide +kernel
theorem dX10_above_5 : decode cX10_above 5 = .ok (.goto 32, 3) := by decide +kernel
theorem dX10_above_8 : decode cX10_above 8 = .ok (.iload_n 0, 1) := by decide +kernel
theorem dX10_above_9 : decode cX10_above 9 = .ok (.iconst 4, 1) := by decide +kernel
theorem dX10_above_10 : decode cX10_above 10 = .ok (.if_icmp .ne 7, 3) := by decide +kernel
theorem dX10_above_13 : decode cX10_above 13 = .ok (.iconst 1, 1) := by decide +kernel
theorem dX10_above_14 : decode cX10_above 14 = .ok (.goto 23, 3) := by decide +kernel
theorem dX10_above_17 : decode cX10_above 17 = .ok (.iload_n 0, 1) := by decide +kernel
theorem dX10_above_18 : decode cX10_above 18 = .ok (.iconst 5, 1) := by decide +kernel
theorem dX10_above_19 : decode cX10_above 19 = .ok (.if_icmp .ne 7, 3) := by decide +kernel
theorem dX10_above_22 : decode cX10_above 22 = .ok (.iconst 2, 1) := by decide +kernel
theorem dX10_above_23 : decode cX10_above 23 = .ok (.goto 14, 3) := by decide +kernel
theorem dX10_above_26 : decode cX10_above 26 = .ok (.iload_n 0, 1) := by decide +kernel
theorem dX10_above_27 : decode cX10_above 27 = .ok (.bipush 6, 2) := by decide +kernel
theorem dX10_above_29 : decode cX10_above 29 = .ok (.if_icmp .ne 7, 3) := by decide +kernel
theorem dX10_above_32 : decode cX10_above 32 = .ok (.iconst 3, 1) := by decide +kernel
theorem dX10_above_33 : decode cX10_above 33 = .ok (.goto 4, 3) := by decide +kernel
theorem dX10_above_36 : decode cX10_above 36 = .ok (.iconst 0, 1) := by decide +kernel
theorem dX10_above_37 : decode cX10_above 37 = .ok (.ireturn, 1) := by decide +kernel
theorem dX10_isUnder_0 : decode cX10_isUnder 0 = .ok (.iload_n 0, 1) := by decide +kernel
theorem dX10_isUnder_1 : decode cX10_isUnder 1 = .ok (.istore_n 2, 1) := by decide +kernel
theorem dX10_isUnder_2 : decode cX10_isUnder 2 = .ok (.iload_n 2, 1) := by decide +kernel
theorem dX10_isUnder_3 : decode cX10_isUnder 3 = .ok (.ifCond .lt 16, 3) := by decide +kernel
theorem dX10_isUnder_6 : decode cX10_isUnder 6 = .ok (.iload_n 2, 1) := by decide +kernel
theorem dX10_isUnder_7 : decode cX10_isUnder 7 = .ok (.iload_n 1, 1) := by decide +kernel
theorem dX10_isUnder_8 : decode cX10_isUnder 8 = .ok (.if_icmp .eq 11, 3) := by decide +kernel
theorem dX10_isUnder_11 : decode cX10_isUnder 11 = .ok (.iload_n 2, 1) := by decide +kernel
theorem dX10_isUnder_12 : decode cX10_isUnder 12 = .ok (.invokestatic 183, 3) := by decide +kernel
theorem dX10_isUnder_15 : decode cX10_isUnder 15 = .ok (.istore_n 2, 1) := by decide +kernel
theorem dX10_isUnder_16 : decode cX10_isUnder 16 = .ok (.goto (-14), 3) := by decide +kernel
theorem dX10_isUnder_19 : decode cX10_isUnder 19 = .ok (.iload_n 2, 1) := by decide +kernel
theorem dX10_isUnder_20 : decode cX10_isUnder 20 = .ok (.ifCond .lt 7, 3) := by decide +kernel
theorem dX10_isUnder_23 : decode cX10_isUnder 23 = .ok (.iconst 1, 1) := by decide +kernel
theorem dX10_isUnder_24 : decode cX10_isUnder 24 = .ok (.goto 4, 3) := by decide +kernel
theorem dX10_isUnder_27 : decode cX10_isUnder 27 = .ok (.iconst 0, 1) := by decide +kernel
theorem dX10_isUnder_28 : decode cX10_isUnder 28 = .ok (.ireturn, 1) := by decide +kernel
theorem dX10_as_0 : decode cX10_as 0 = .ok (.aload_n 0, 1) := by decide +kernel
theorem dX10_as_1 : decode cX10_as 1 = .ok (.iload_n 1, 1) := by decide +kernel
theorem dX10_as_2 : decode cX10_as 2 = .ok (.invokevirtual 171, 3) := by decide +kernel
theorem dX10_as_5 : decode cX10_as 5 = .ok (.ifCond .eq 13, 3) := by decide +kernel
theorem dX10_as_8 : decode cX10_as 8 = .ok (.iload_n 2, 1) := by decide +kernel
theorem dX10_as_9 : decode cX10_as 9 = .ok (.iconst 0, 1) := by decide +kernel
theorem dX10_as_10 : decode cX10_as 10 = .ok (.bipush 6, 2) := by decide +kernel
theorem dX10_as_12 : decode cX10_as 12 = .ok (.invokestatic 70, 3) := by decide +kernel
theorem dX10_as_15 : decode cX10_as 15 = .ok (.ifCond .ne 10, 3) := by decide +kernel
theorem dX10_as_18 : decode cX10_as 18 = .ok (.aload_n 0, 1) := by decide +kernel
theorem dX10_as_19 : decode cX10_as 19 = .ok (.ldc 74, 2) := by decide +kernel
theorem dX10_as_21 : decode cX10_as 21 = .ok (.invokevirtual 75, 3) := by decide +kernel
theorem dX10_as_24 : decode cX10_as 24 = .ok (.ireturn, 1) := by decide +kernel
theorem dX10_as_25 : decode cX10_as 25 = .ok (.aload_n 0, 1) := by decide +kernel
theorem dX10_as_26 : decode cX10_as 26 = .ok (.iload_n 1, 1) := by decide +kernel
theorem dX10_as_27 : decode cX10_as 27 = .ok (.iconst 0, 1) := by decide +kernel
theorem dX10_as_28 : decode cX10_as 28 = .ok (.invokevirtual 177, 3) := by decide +kernel
theorem dX10_as_31 : decode cX10_as 31 = .ok (.iload_n 2, 1) := by decide +kernel
theorem dX10_as_32 : decode cX10_as 32 = .ok (.invokestatic 186, 3) := by decide +kernel
theorem dX10_as_35 : decode cX10_as 35 = .ok (.ifCond .eq 12, 3) := by decide +kernel
theorem dX10_as_38 : decode cX10_as 38 = .ok (.aload_n 0, 1) := by decide +kernel
theorem dX10_as_39 : decode cX10_as 39 = .ok (.iload_n 1, 1) := by decide +kernel
theorem dX10_as_40 : decode cX10_as 40 = .ok (.iconst 1, 1) := by decide +kernel
theorem dX10_as_41 : decode cX10_as 41 = .ok (.invokevirtual 177, 3) := by decide +kernel
theorem dX10_as_44 : decode cX10_as 44 = .ok (.goto 9, 3) := by decide +kernel
theorem dX10_as_47 : decode cX10_as 47 = .ok (.aload_n 0, 1) := by decide +kernel
theorem dX10_as_48 : decode cX10_as 48 = .ok (.ldc 190, 2) := by decide +kernel
theorem dX10_as_50 : decode cX10_as 50 = .ok (.invokevirtual 75, 3) := by decide +kernel
theorem dX10_as_53 : decode cX10_as 53 = .ok (.ireturn, 1) := by decide +kernel
theorem dX10_potter_0 : decode cX10_potter 0 = .ok (.aload_n 0, 1) := by decide +kernel
theorem dX10_potter_1 : decode cX10_potter 1 = .ok (.getfield 9, 3) := by decide +kernel
theorem dX10_potter_4 : decode cX10_potter 4 = .ok (.iconst 2, 1) := by decide +kernel
theorem dX10_potter_5 : decode cX10_potter 5 = .ok (.iaload, 1) := by decide +kernel
theorem dX10_potter_6 : decode cX10_potter 6 = .ok (.istore_n 1, 1) := by decide +kernel
theorem dX10_potter_7 : decode cX10_potter 7 = .ok (.iload_n 1, 1) := by decide +kernel
theorem dX10_potter_8 : decode cX10_potter 8 = .ok (.iconst 4, 1) := by decide +kernel
theorem dX10_potter_9 : decode cX10_potter 9 = .ok (.if_icmp .ne 10, 3) := by decide +kernel
theorem dX10_potter_12 : decode cX10_potter 12 = .ok (.aload_n 0, 1) := by decide +kernel
theorem dX10_potter_13 : decode cX10_potter 13 = .ok (.ldc 79, 2) := by decide +kernel
theorem dX10_potter_15 : decode cX10_potter 15 = .ok (.invokevirtual 75, 3) := by decide +kernel
theorem dX10_potter_18 : decode cX10_potter 18 = .ok (.ireturn, 1) := by decide +kernel
theorem dX10_potter_19 : decode cX10_potter 19 = .ok (.iconst 0, 1) := by decide +kernel
theorem dX10_potter_20 : decode cX10_potter 20 = .ok (.istore_n 2, 1) := by decide +kernel
theorem dX10_potter_21 : decode cX10_potter 21 = .ok (.iload_n 2, 1) := by decide +kernel
theorem dX10_potter_22 : decode cX10_potter 22 = .ok (.bipush 7, 2) := by decide +kernel
theorem dX10_potter_24 : decode cX10_potter 24 = .ok (.if_icmp .ge 20, 3) := by decide +kernel
theorem dX10_potter_27 : decode cX10_potter 27 = .ok (.aload_n 0, 1) := by decide +kernel
theorem dX10_potter_28 : decode cX10_potter 28 = .ok (.getfield 9, 3) := by decide +kernel
theorem dX10_potter_31 : decode cX10_potter 31 = .ok (.iload_n 1, 1) := by decide +kernel
theorem dX10_potter_32 : decode cX10_potter 32 = .ok (.iload_n 2, 1) := by decide +kernel
theorem dX10_potter_33 : decode cX10_potter 33 = .ok (.invokestatic 191, 3) := by decide +kernel
theorem dX10_potter_36 : decode cX10_potter 36 = .ok (.iconst 0, 1) := by decide +kernel
theorem dX10_potter_37 : decode cX10_potter 37 = .ok (.iastore, 1) := by decide +kernel
theorem dX10_potter_38 : decode cX10_potter 38 = .ok (.iinc 2 1, 3) := by decide +kernel
theorem dX10_potter_41 : decode cX10_potter 41 = .ok (.goto (-20), 3) := by decide +kernel
theorem dX10_potter_44 : decode cX10_potter 44 = .ok (.aload_n 0, 1) := by decide +kernel
theorem dX10_potter_45 : decode cX10_potter 45 = .ok (.getfield 9, 3) := by decide +kernel
theorem dX10_potter_48 : decode cX10_potter 48 = .ok (.iconst 2, 1) := by decide +kernel
theorem dX10_potter_49 : decode cX10_potter 49 = .ok (.dup2, 1) := by decide +kernel
theorem dX10_potter_50 : decode cX10_potter 50 = .ok (.iaload, 1) := by decide +kernel
theorem dX10_potter_51 : decode cX10_potter 51 = .ok (.iconst 1, 1) := by decide +kernel
theorem dX10_potter_52 : decode cX10_potter 52 = .ok (.iadd, 1) := by decide +kernel
theorem dX10_potter_53 : decode cX10_potter 53 = .ok (.iastore, 1) := by decide +kernel
theorem dX10_potter_54 : decode cX10_potter 54 = .ok (.iload_n 1, 1) := by decide +kernel
theorem dX10_potter_55 : decode cX10_potter 55 = .ok (.ireturn, 1) := by decide +kernel
theorem dX10_loansOf_0 : decode cX10_loansOf 0 = .ok (.iconst 0, 1) := by decide +kernel
theorem dX10_loansOf_1 : decode cX10_loansOf 1 = .ok (.istore_n 3, 1) := by decide +kernel
theorem dX10_loansOf_2 : decode cX10_loansOf 2 = .ok (.iconst 0, 1) := by decide +kernel
theorem dX10_loansOf_3 : decode cX10_loansOf 3 = .ok (.istore 4, 2) := by decide +kernel
theorem dX10_loansOf_5 : decode cX10_loansOf 5 = .ok (.iload 4, 2) := by decide +kernel
theorem dX10_loansOf_7 : decode cX10_loansOf 7 = .ok (.aload_n 0, 1) := by decide +kernel
theorem dX10_loansOf_8 : decode cX10_loansOf 8 = .ok (.getfield 9, 3) := by decide +kernel
theorem dX10_loansOf_11 : decode cX10_loansOf 11 = .ok (.iconst 3, 1) := by decide +kernel
theorem dX10_loansOf_12 : decode cX10_loansOf 12 = .ok (.iaload, 1) := by decide +kernel
theorem dX10_loansOf_13 : decode cX10_loansOf 13 = .ok (.if_icmp .ge 43, 3) := by decide +kernel
theorem dX10_loansOf_16 : decode cX10_loansOf 16 = .ok (.iload_n 3, 1) := by decide +kernel
theorem dX10_loansOf_17 : decode cX10_loansOf 17 = .ok (.aload_n 0, 1) := by decide +kernel
theorem dX10_loansOf_18 : decode cX10_loansOf 18 = .ok (.iload 4, 2) := by decide +kernel
theorem dX10_loansOf_20 : decode cX10_loansOf 20 = .ok (.iload_n 2, 1) := by decide +kernel
theorem dX10_loansOf_21 : decode cX10_loansOf 21 = .ok (.invokevirtual 194, 3) := by decide +kernel
theorem dX10_loansOf_24 : decode cX10_loansOf 24 = .ok (.iload_n 1, 1) := by decide +kernel
theorem dX10_loansOf_25 : decode cX10_loansOf 25 = .ok (.if_icmp .eq 7, 3) := by decide +kernel
theorem dX10_loansOf_28 : decode cX10_loansOf 28 = .ok (.iconst 0, 1) := by decide +kernel
theorem dX10_loansOf_29 : decode cX10_loansOf 29 = .ok (.goto 19, 3) := by decide +kernel
theorem dX10_loansOf_32 : decode cX10_loansOf 32 = .ok (.iload_n 2, 1) := by decide +kernel
theorem dX10_loansOf_33 : decode cX10_loansOf 33 = .ok (.iconst 1, 1) := by decide +kernel
theorem dX10_loansOf_34 : decode cX10_loansOf 34 = .ok (.if_icmp .ne 7, 3) := by decide +kernel
theorem dX10_loansOf_37 : decode cX10_loansOf 37 = .ok (.iconst 1, 1) := by decide +kernel
theorem dX10_loansOf_38 : decode cX10_loansOf 38 = .ok (.goto 10, 3) := by decide +kernel
theorem dX10_loansOf_41 : decode cX10_loansOf 41 = .ok (.aload_n 0, 1) := by decide +kernel
theorem dX10_loansOf_42 : decode cX10_loansOf 42 = .ok (.iload 4, 2) := by decide +kernel
theorem dX10_loansOf_44 : decode cX10_loansOf 44 = .ok (.iconst 3, 1) := by decide +kernel
theorem dX10_loansOf_45 : decode cX10_loansOf 45 = .ok (.invokevirtual 194, 3) := by decide +kernel
theorem dX10_loansOf_48 : decode cX10_loansOf 48 = .ok (.iadd, 1) := by decide +kernel
theorem dX10_loansOf_49 : decode cX10_loansOf 49 = .ok (.istore_n 3, 1) := by decide +kernel
theorem dX10_loansOf_50 : decode cX10_loansOf 50 = .ok (.iinc 4 1, 3) := by decide +kernel
theorem dX10_loansOf_53 : decode cX10_loansOf 53 = .ok (.goto (-48), 3) := by decide +kernel
theorem dX10_loansOf_56 : decode cX10_loansOf 56 = .ok (.iload_n 3, 1) := by decide +kernel
theorem dX10_loansOf_57 : decode cX10_loansOf 57 = .ok (.ireturn, 1) := by decide +kernel
theorem dX10_ofPotter_0 : decode cX10_ofPotter 0 = .ok (.aload_n 0, 1) := by decide +kernel
theorem dX10_ofPotter_1 : decode cX10_ofPotter 1 = .ok (.iload_n 1, 1) := by decide +kernel
theorem dX10_ofPotter_2 : decode cX10_ofPotter 2 = .ok (.invokevirtual 197, 3) := by decide +kernel
theorem dX10_ofPotter_5 : decode cX10_ofPotter 5 = .ok (.ifCond .eq 12, 3) := by decide +kernel
theorem dX10_ofPotter_8 : decode cX10_ofPotter 8 = .ok (.iload_n 2, 1) := by decide +kernel
theorem dX10_ofPotter_9 : decode cX10_ofPotter 9 = .ok (.iconst 0, 1) := by decide +kernel
theorem dX10_ofPotter_10 : decode cX10_ofPotter 10 = .ok (.iconst 3, 1) := by decide +kernel
theorem dX10_ofPotter_11 : decode cX10_ofPotter 11 = .ok (.invokestatic 70, 3) := by decide +kernel
theorem dX10_ofPotter_14 : decode cX10_ofPotter 14 = .ok (.ifCond .ne 10, 3) := by decide +kernel
theorem dX10_ofPotter_17 : decode cX10_ofPotter 17 = .ok (.aload_n 0, 1) := by decide +kernel
theorem dX10_ofPotter_18 : decode cX10_ofPotter 18 = .ok (.ldc 74, 2) := by decide +kernel
theorem dX10_ofPotter_20 : decode cX10_ofPotter 20 = .ok (.invokevirtual 75, 3) := by decide +kernel
theorem dX10_ofPotter_23 : decode cX10_ofPotter 23 = .ok (.ireturn, 1) := by decide +kernel
theorem dX10_ofPotter_24 : decode cX10_ofPotter 24 = .ok (.iload_n 2, 1) := by decide +kernel
theorem dX10_ofPotter_25 : decode cX10_ofPotter 25 = .ok (.iconst 2, 1) := by decide +kernel
theorem dX10_ofPotter_26 : decode cX10_ofPotter 26 = .ok (.if_icmp .ge 16, 3) := by decide +kernel
theorem dX10_ofPotter_29 : decode cX10_ofPotter 29 = .ok (.aload_n 0, 1) := by decide +kernel
theorem dX10_ofPotter_30 : decode cX10_ofPotter 30 = .ok (.getfield 9, 3) := by decide +kernel
theorem dX10_ofPotter_33 : decode cX10_ofPotter 33 = .ok (.iload_n 1, 1) := by decide +kernel
theorem dX10_ofPotter_34 : decode cX10_ofPotter 34 = .ok (.iload_n 2, 1) := by decide +kernel
theorem dX10_ofPotter_35 : decode cX10_ofPotter 35 = .ok (.invokestatic 191, 3) := by decide +kernel
theorem dX10_ofPotter_38 : decode cX10_ofPotter 38 = .ok (.iaload, 1) := by decide +kernel
theorem dX10_ofPotter_39 : decode cX10_ofPotter 39 = .ok (.goto 18, 3) := by decide +kernel
theorem dX10_ofPotter_42 : decode cX10_ofPotter 42 = .ok (.aload_n 0, 1) := by decide +kernel
theorem dX10_ofPotter_43 : decode cX10_ofPotter 43 = .ok (.iload_n 1, 1) := by decide +kernel
theorem dX10_ofPotter_44 : decode cX10_ofPotter 44 = .ok (.iload_n 2, 1) := by decide +kernel
theorem dX10_ofPotter_45 : decode cX10_ofPotter 45 = .ok (.iconst 2, 1) := by decide +kernel
theorem dX10_ofPotter_46 : decode cX10_ofPotter 46 = .ok (.if_icmp .ne 7, 3) := by decide +kernel
theorem dX10_ofPotter_49 : decode cX10_ofPotter 49 = .ok (.iconst 1, 1) := by decide +kernel
theorem dX10_ofPotter_50 : decode cX10_ofPotter 50 = .ok (.goto 4, 3) := by decide +kernel
theorem dX10_ofPotter_53 : decode cX10_ofPotter 53 = .ok (.iconst 0, 1) := by decide +kernel
theorem dX10_ofPotter_54 : decode cX10_ofPotter 54 = .ok (.invokevirtual 200, 3) := by decide +kernel
theorem dX10_ofPotter_57 : decode cX10_ofPotter 57 = .ok (.ireturn, 1) := by decide +kernel
theorem dX10_store_0 : decode cX10_store 0 = .ok (.aload_n 0, 1) := by decide +kernel
theorem dX10_store_1 : decode cX10_store 1 = .ok (.iload_n 1, 1) := by decide +kernel
theorem dX10_store_2 : decode cX10_store 2 = .ok (.invokevirtual 197, 3) := by decide +kernel
theorem dX10_store_5 : decode cX10_store 5 = .ok (.ifCond .eq 22, 3) := by decide +kernel
end
section
theorem dX10_store_8 : decode cX10_store 8 = .ok (.aload_n 0, 1) := by decide +kernel
theorem dX10_store_9 : decode cX10_store 9 = .ok (.iload_n 2, 1) := by decide +kernel
theorem dX10_store_10 : decode cX10_store 10 = .ok (.invokevirtual 171, 3) := by decide +kernel
theorem dX10_store_13 : decode cX10_store 13 = .ok (.ifCond .eq 14, 3) := by decide +kernel
theorem dX10_store_16 : decode cX10_store 16 = .ok (.iload_n 3, 1) := by decide +kernel
theorem dX10_store_17 : decode cX10_store 17 = .ok (.iconst 0, 1) := by decide +kernel
theorem dX10_store_18 : decode cX10_store 18 = .ok (.sipush 999, 3) := by decide +kernel
theorem dX10_store_21 : decode cX10_store 21 = .ok (.invokestatic 70, 3) := by decide +kernel
theorem dX10_store_24 : decode cX10_store 24 = .ok (.ifCond .ne 10, 3) := by decide +kernel
theorem dX10_store_27 : decode cX10_store 27 = .ok (.aload_n 0, 1) := by decide +kernel
theorem dX10_store_28 : decode cX10_store 28 = .ok (.ldc 74, 2) := by decide +kernel
theorem dX10_store_30 : decode cX10_store 30 = .ok (.invokevirtual 75, 3) := by decide +kernel
theorem dX10_store_33 : decode cX10_store 33 = .ok (.ireturn, 1) := by decide +kernel
theorem dX10_store_34 : decode cX10_store 34 = .ok (.aload_n 0, 1) := by decide +kernel
theorem dX10_store_35 : decode cX10_store 35 = .ok (.iload_n 1, 1) := by decide +kernel
theorem dX10_store_36 : decode cX10_store 36 = .ok (.iload_n 2, 1) := by decide +kernel
theorem dX10_store_37 : decode cX10_store 37 = .ok (.invokestatic 162, 3) := by decide +kernel
theorem dX10_store_40 : decode cX10_store 40 = .ok (.iload_n 3, 1) := by decide +kernel
theorem dX10_store_41 : decode cX10_store 41 = .ok (.invokevirtual 180, 3) := by decide +kernel
theorem dX10_store_44 : decode cX10_store 44 = .ok (.ireturn, 1) := by decide +kernel
theorem dX10_stored_0 : decode cX10_stored 0 = .ok (.aload_n 0, 1) := by decide +kernel
theorem dX10_stored_1 : decode cX10_stored 1 = .ok (.iload_n 1, 1) := by decide +kernel
theorem dX10_stored_2 : decode cX10_stored 2 = .ok (.invokevirtual 197, 3) := by decide +kernel
theorem dX10_stored_5 : decode cX10_stored 5 = .ok (.ifCond .eq 24, 3) := by decide +kernel
theorem dX10_stored_8 : decode cX10_stored 8 = .ok (.aload_n 0, 1) := by decide +kernel
theorem dX10_stored_9 : decode cX10_stored 9 = .ok (.iload_n 2, 1) := by decide +kernel
theorem dX10_stored_10 : decode cX10_stored 10 = .ok (.invokevirtual 171, 3) := by decide +kernel
theorem dX10_stored_13 : decode cX10_stored 13 = .ok (.ifCond .eq 16, 3) := by decide +kernel
theorem dX10_stored_16 : decode cX10_stored 16 = .ok (.aload_n 0, 1) := by decide +kernel
theorem dX10_stored_17 : decode cX10_stored 17 = .ok (.getfield 9, 3) := by decide +kernel
theorem dX10_stored_20 : decode cX10_stored 20 = .ok (.iload_n 1, 1) := by decide +kernel
theorem dX10_stored_21 : decode cX10_stored 21 = .ok (.iload_n 2, 1) := by decide +kernel
theorem dX10_stored_22 : decode cX10_stored 22 = .ok (.invokestatic 162, 3) := by decide +kernel
theorem dX10_stored_25 : decode cX10_stored 25 = .ok (.iaload, 1) := by decide +kernel
theorem dX10_stored_26 : decode cX10_stored 26 = .ok (.goto 9, 3) := by decide +kernel
theorem dX10_stored_29 : decode cX10_stored 29 = .ok (.aload_n 0, 1) := by decide +kernel
theorem dX10_stored_30 : decode cX10_stored 30 = .ok (.ldc 74, 2) := by decide +kernel
theorem dX10_stored_32 : decode cX10_stored 32 = .ok (.invokevirtual 75, 3) := by decide +kernel
theorem dX10_stored_35 : decode cX10_stored 35 = .ok (.ireturn, 1) := by decide +kernel
theorem dX10_colourOf_0 : decode cX10_colourOf 0 = .ok (.aload_n 0, 1) := by decide +kernel
theorem dX10_colourOf_1 : decode cX10_colourOf 1 = .ok (.iload_n 1, 1) := by decide +kernel
theorem dX10_colourOf_2 : decode cX10_colourOf 2 = .ok (.iconst 1, 1) := by decide +kernel
theorem dX10_colourOf_3 : decode cX10_colourOf 3 = .ok (.invokevirtual 177, 3) := by decide +kernel
theorem dX10_colourOf_6 : decode cX10_colourOf 6 = .ok (.istore_n 3, 1) := by decide +kernel
theorem dX10_colourOf_7 : decode cX10_colourOf 7 = .ok (.aload_n 0, 1) := by decide +kernel
theorem dX10_colourOf_8 : decode cX10_colourOf 8 = .ok (.iconst 0, 1) := by decide +kernel
theorem dX10_colourOf_9 : decode cX10_colourOf 9 = .ok (.iload_n 3, 1) := by decide +kernel
theorem dX10_colourOf_10 : decode cX10_colourOf 10 = .ok (.aload_n 0, 1) := by decide +kernel
theorem dX10_colourOf_11 : decode cX10_colourOf 11 = .ok (.iload_n 1, 1) := by decide +kernel
theorem dX10_colourOf_12 : decode cX10_colourOf 12 = .ok (.iconst 0, 1) := by decide +kernel
theorem dX10_colourOf_13 : decode cX10_colourOf 13 = .ok (.invokevirtual 177, 3) := by decide +kernel
theorem dX10_colourOf_16 : decode cX10_colourOf 16 = .ok (.iload_n 2, 1) := by decide +kernel
theorem dX10_colourOf_17 : decode cX10_colourOf 17 = .ok (.invokevirtual 152, 3) := by decide +kernel
theorem dX10_colourOf_20 : decode cX10_colourOf 20 = .ok (.istore 4, 2) := by decide +kernel
theorem dX10_colourOf_22 : decode cX10_colourOf 22 = .ok (.iload_n 2, 1) := by decide +kernel
theorem dX10_colourOf_23 : decode cX10_colourOf 23 = .ok (.iconst 5, 1) := by decide +kernel
theorem dX10_colourOf_24 : decode cX10_colourOf 24 = .ok (.if_icmp .ge 8, 3) := by decide +kernel
theorem dX10_colourOf_27 : decode cX10_colourOf 27 = .ok (.iload 4, 2) := by decide +kernel
theorem dX10_colourOf_29 : decode cX10_colourOf 29 = .ok (.goto 4, 3) := by decide +kernel
theorem dX10_colourOf_32 : decode cX10_colourOf 32 = .ok (.iload_n 3, 1) := by decide +kernel
theorem dX10_colourOf_33 : decode cX10_colourOf 33 = .ok (.istore 5, 2) := by decide +kernel
theorem dX10_colourOf_35 : decode cX10_colourOf 35 = .ok (.aload_n 0, 1) := by decide +kernel
theorem dX10_colourOf_36 : decode cX10_colourOf 36 = .ok (.iload_n 1, 1) := by decide +kernel
theorem dX10_colourOf_37 : decode cX10_colourOf 37 = .ok (.iconst 0, 1) := by decide +kernel
theorem dX10_colourOf_38 : decode cX10_colourOf 38 = .ok (.invokevirtual 177, 3) := by decide +kernel
theorem dX10_colourOf_41 : decode cX10_colourOf 41 = .ok (.tableswitch 72 1 6 #[39, 44, 49, 52, 59, 66], 39) := by decide +kernel
theorem dX10_colourOf_80 : decode cX10_colourOf 80 = .ok (.iload 4, 2) := by decide +kernel
theorem dX10_colourOf_82 : decode cX10_colourOf 82 = .ok (.iconst 1, 1) := by decide +kernel
theorem dX10_colourOf_83 : decode cX10_colourOf 83 = .ok (.iadd, 1) := by decide +kernel
theorem dX10_colourOf_84 : decode cX10_colourOf 84 = .ok (.ireturn, 1) := by decide +kernel
theorem dX10_colourOf_85 : decode cX10_colourOf 85 = .ok (.iconst 2, 1) := by decide +kernel
theorem dX10_colourOf_86 : decode cX10_colourOf 86 = .ok (.iload 4, 2) := by decide +kernel
theorem dX10_colourOf_88 : decode cX10_colourOf 88 = .ok (.imul, 1) := by decide +kernel
theorem dX10_colourOf_89 : decode cX10_colourOf 89 = .ok (.ireturn, 1) := by decide +kernel
theorem dX10_colourOf_90 : decode cX10_colourOf 90 = .ok (.iload 5, 2) := by decide +kernel
theorem dX10_colourOf_92 : decode cX10_colourOf 92 = .ok (.ireturn, 1) := by decide +kernel
theorem dX10_colourOf_93 : decode cX10_colourOf 93 = .ok (.iload 4, 2) := by decide +kernel
theorem dX10_colourOf_95 : decode cX10_colourOf 95 = .ok (.iconst 1, 1) := by decide +kernel
theorem dX10_colourOf_96 : decode cX10_colourOf 96 = .ok (.iadd, 1) := by decide +kernel
theorem dX10_colourOf_97 : decode cX10_colourOf 97 = .ok (.iload_n 2, 1) := by decide +kernel
theorem dX10_colourOf_98 : decode cX10_colourOf 98 = .ok (.iadd, 1) := by decide +kernel
theorem dX10_colourOf_99 : decode cX10_colourOf 99 = .ok (.ireturn, 1) := by decide +kernel
theorem dX10_colourOf_100 : decode cX10_colourOf 100 = .ok (.iconst 2, 1) := by decide +kernel
theorem dX10_colourOf_101 : decode cX10_colourOf 101 = .ok (.iload 4, 2) := by decide +kernel
theorem dX10_colourOf_103 : decode cX10_colourOf 103 = .ok (.imul, 1) := by decide +kernel
theorem dX10_colourOf_104 : decode cX10_colourOf 104 = .ok (.iload_n 3, 1) := by decide +kernel
theorem dX10_colourOf_105 : decode cX10_colourOf 105 = .ok (.isub, 1) := by decide +kernel
theorem dX10_colourOf_106 : decode cX10_colourOf 106 = .ok (.ireturn, 1) := by decide +kernel
theorem dX10_colourOf_107 : decode cX10_colourOf 107 = .ok (.bipush 9, 2) := by decide +kernel
theorem dX10_colourOf_109 : decode cX10_colourOf 109 = .ok (.iload 5, 2) := by decide +kernel
theorem dX10_colourOf_111 : decode cX10_colourOf 111 = .ok (.isub, 1) := by decide +kernel
theorem dX10_colourOf_112 : decode cX10_colourOf 112 = .ok (.ireturn, 1) := by decide +kernel
theorem dX10_colourOf_113 : decode cX10_colourOf 113 = .ok (.iload 4, 2) := by decide +kernel
theorem dX10_colourOf_115 : decode cX10_colourOf 115 = .ok (.ireturn, 1) := by decide +kernel
theorem dX10_rest_0 : decode cX10_rest 0 = .ok (.iload_n 0, 1) := by decide +kernel
theorem dX10_rest_1 : decode cX10_rest 1 = .ok (.bipush 10, 2) := by decide +kernel
theorem dX10_rest_3 : decode cX10_rest 3 = .ok (.irem, 1) := by decide +kernel
theorem dX10_rest_4 : decode cX10_rest 4 = .ok (.ifCond .ge 13, 3) := by decide +kernel
theorem dX10_rest_7 : decode cX10_rest 7 = .ok (.iload_n 0, 1) := by decide +kernel
theorem dX10_rest_8 : decode cX10_rest 8 = .ok (.bipush 10, 2) := by decide +kernel
theorem dX10_rest_10 : decode cX10_rest 10 = .ok (.irem, 1) := by decide +kernel
theorem dX10_rest_11 : decode cX10_rest 11 = .ok (.bipush 10, 2) := by decide +kernel
theorem dX10_rest_13 : decode cX10_rest 13 = .ok (.iadd, 1) := by decide +kernel
theorem dX10_rest_14 : decode cX10_rest 14 = .ok (.goto 7, 3) := by decide +kernel
theorem dX10_rest_17 : decode cX10_rest 17 = .ok (.iload_n 0, 1) := by decide +kernel
theorem dX10_rest_18 : decode cX10_rest 18 = .ok (.bipush 10, 2) := by decide +kernel
theorem dX10_rest_20 : decode cX10_rest 20 = .ok (.irem, 1) := by decide +kernel
theorem dX10_rest_21 : decode cX10_rest 21 = .ok (.ireturn, 1) := by decide +kernel
theorem dX10_digit_0 : decode cX10_digit 0 = .ok (.iload_n 0, 1) := by decide +kernel
theorem dX10_digit_1 : decode cX10_digit 1 = .ok (.istore_n 2, 1) := by decide +kernel
theorem dX10_digit_2 : decode cX10_digit 2 = .ok (.iconst 0, 1) := by decide +kernel
theorem dX10_digit_3 : decode cX10_digit 3 = .ok (.istore_n 3, 1) := by decide +kernel
theorem dX10_digit_4 : decode cX10_digit 4 = .ok (.iload_n 3, 1) := by decide +kernel
theorem dX10_digit_5 : decode cX10_digit 5 = .ok (.iload_n 1, 1) := by decide +kernel
theorem dX10_digit_6 : decode cX10_digit 6 = .ok (.if_icmp .ge 14, 3) := by decide +kernel
theorem dX10_digit_9 : decode cX10_digit 9 = .ok (.iload_n 2, 1) := by decide +kernel
theorem dX10_digit_10 : decode cX10_digit 10 = .ok (.bipush 10, 2) := by decide +kernel
theorem dX10_digit_12 : decode cX10_digit 12 = .ok (.idiv, 1) := by decide +kernel
theorem dX10_digit_13 : decode cX10_digit 13 = .ok (.istore_n 2, 1) := by decide +kernel
theorem dX10_digit_14 : decode cX10_digit 14 = .ok (.iinc 3 1, 3) := by decide +kernel
theorem dX10_digit_17 : decode cX10_digit 17 = .ok (.goto (-13), 3) := by decide +kernel
theorem dX10_digit_20 : decode cX10_digit 20 = .ok (.iload_n 2, 1) := by decide +kernel
theorem dX10_digit_21 : decode cX10_digit 21 = .ok (.bipush 10, 2) := by decide +kernel
theorem dX10_digit_23 : decode cX10_digit 23 = .ok (.irem, 1) := by decide +kernel
theorem dX10_digit_24 : decode cX10_digit 24 = .ok (.ireturn, 1) := by decide +kernel
theorem dX10_isMix_0 : decode cX10_isMix 0 = .ok (.iload_n 1, 1) := by decide +kernel
theorem dX10_isMix_1 : decode cX10_isMix 1 = .ok (.iconst 0, 1) := by decide +kernel
theorem dX10_isMix_2 : decode cX10_isMix 2 = .ok (.ldc 203, 2) := by decide +kernel
theorem dX10_isMix_4 : decode cX10_isMix 4 = .ok (.invokestatic 70, 3) := by decide +kernel
theorem dX10_isMix_7 : decode cX10_isMix 7 = .ok (.istore_n 2, 1) := by decide +kernel
theorem dX10_isMix_8 : decode cX10_isMix 8 = .ok (.aload_n 0, 1) := by decide +kernel
theorem dX10_isMix_9 : decode cX10_isMix 9 = .ok (.getfield 9, 3) := by decide +kernel
theorem dX10_isMix_12 : decode cX10_isMix 12 = .ok (.iconst 1, 1) := by decide +kernel
theorem dX10_isMix_13 : decode cX10_isMix 13 = .ok (.iaload, 1) := by decide +kernel
theorem dX10_isMix_14 : decode cX10_isMix 14 = .ok (.istore_n 3, 1) := by decide +kernel
theorem dX10_isMix_15 : decode cX10_isMix 15 = .ok (.iload_n 3, 1) := by decide +kernel
theorem dX10_isMix_16 : decode cX10_isMix 16 = .ok (.iconst 5, 1) := by decide +kernel
theorem dX10_isMix_17 : decode cX10_isMix 17 = .ok (.if_icmp .ge 27, 3) := by decide +kernel
theorem dX10_isMix_20 : decode cX10_isMix 20 = .ok (.iload_n 2, 1) := by decide +kernel
theorem dX10_isMix_21 : decode cX10_isMix 21 = .ok (.ifCond .eq 15, 3) := by decide +kernel
theorem dX10_isMix_24 : decode cX10_isMix 24 = .ok (.iload_n 1, 1) := by decide +kernel
theorem dX10_isMix_25 : decode cX10_isMix 25 = .ok (.iload_n 3, 1) := by decide +kernel
theorem dX10_isMix_26 : decode cX10_isMix 26 = .ok (.invokestatic 204, 3) := by decide +kernel
theorem dX10_isMix_29 : decode cX10_isMix 29 = .ok (.ifCond .ne 7, 3) := by decide +kernel
theorem dX10_isMix_32 : decode cX10_isMix 32 = .ok (.iconst 1, 1) := by decide +kernel
theorem dX10_isMix_33 : decode cX10_isMix 33 = .ok (.goto 4, 3) := by decide +kernel
theorem dX10_isMix_36 : decode cX10_isMix 36 = .ok (.iconst 0, 1) := by decide +kernel
theorem dX10_isMix_37 : decode cX10_isMix 37 = .ok (.istore_n 2, 1) := by decide +kernel
theorem dX10_isMix_38 : decode cX10_isMix 38 = .ok (.iinc 3 1, 3) := by decide +kernel
theorem dX10_isMix_41 : decode cX10_isMix 41 = .ok (.goto (-26), 3) := by decide +kernel
theorem dX10_isMix_44 : decode cX10_isMix 44 = .ok (.iload_n 2, 1) := by decide +kernel
theorem dX10_isMix_45 : decode cX10_isMix 45 = .ok (.ireturn, 1) := by decide +kernel
theorem dX10_isForbidden_0 : decode cX10_isForbidden 0 = .ok (.iconst 0, 1) := by decide +kernel
theorem dX10_isForbidden_1 : decode cX10_isForbidden 1 = .ok (.istore_n 3, 1) := by decide +kernel
theorem dX10_isForbidden_2 : decode cX10_isForbidden 2 = .ok (.iconst 0, 1) := by decide +kernel
theorem dX10_isForbidden_3 : decode cX10_isForbidden 3 = .ok (.istore 4, 2) := by decide +kernel
theorem dX10_isForbidden_5 : decode cX10_isForbidden 5 = .ok (.iload 4, 2) := by decide +kernel
theorem dX10_isForbidden_7 : decode cX10_isForbidden 7 = .ok (.aload_n 0, 1) := by decide +kernel
theorem dX10_isForbidden_8 : decode cX10_isForbidden 8 = .ok (.getfield 9, 3) := by decide +kernel
theorem dX10_isForbidden_11 : decode cX10_isForbidden 11 = .ok (.iconst 1, 1) := by decide +kernel
theorem dX10_isForbidden_12 : decode cX10_isForbidden 12 = .ok (.iaload, 1) := by decide +kernel
theorem dX10_isForbidden_13 : decode cX10_isForbidden 13 = .ok (.if_icmp .ge 79, 3) := by decide +kernel
theorem dX10_isForbidden_16 : decode cX10_isForbidden 16 = .ok (.aload_n 0, 1) := by decide +kernel
theorem dX10_isForbidden_17 : decode cX10_isForbidden 17 = .ok (.iload 4, 2) := by decide +kernel
theorem dX10_isForbidden_19 : decode cX10_isForbidden 19 = .ok (.iconst 0, 1) := by decide +kernel
theorem dX10_isForbidden_20 : decode cX10_isForbidden 20 = .ok (.invokevirtual 177, 3) := by decide +kernel
theorem dX10_isForbidden_23 : decode cX10_isForbidden 23 = .ok (.iconst 4, 1) := by decide +kernel
theorem dX10_isForbidden_24 : decode cX10_isForbidden 24 = .ok (.if_icmp .ne 9, 3) := by decide +kernel
theorem dX10_isForbidden_27 : decode cX10_isForbidden 27 = .ok (.iload_n 2, 1) := by decide +kernel
theorem dX10_isForbidden_28 : decode cX10_isForbidden 28 = .ok (.bipush 7, 2) := by decide +kernel
theorem dX10_isForbidden_30 : decode cX10_isForbidden 30 = .ok (.if_icmp .gt 25, 3) := by decide +kernel
theorem dX10_isForbidden_33 : decode cX10_isForbidden 33 = .ok (.aload_n 0, 1) := by decide +kernel
theorem dX10_isForbidden_34 : decode cX10_isForbidden 34 = .ok (.iload 4, 2) := by decide +kernel
theorem dX10_isForbidden_36 : decode cX10_isForbidden 36 = .ok (.iconst 0, 1) := by decide +kernel
theorem dX10_isForbidden_37 : decode cX10_isForbidden 37 = .ok (.invokevirtual 177, 3) := by decide +kernel
theorem dX10_isForbidden_40 : decode cX10_isForbidden 40 = .ok (.bipush 6, 2) := by decide +kernel
theorem dX10_isForbidden_42 : decode cX10_isForbidden 42 = .ok (.if_icmp .ne 17, 3) := by decide +kernel
theorem dX10_isForbidden_45 : decode cX10_isForbidden 45 = .ok (.aload_n 0, 1) := by decide +kernel
theorem dX10_isForbidden_46 : decode cX10_isForbidden 46 = .ok (.iload 4, 2) := by decide +kernel
theorem dX10_isForbidden_48 : decode cX10_isForbidden 48 = .ok (.iconst 1, 1) := by decide +kernel
theorem dX10_isForbidden_49 : decode cX10_isForbidden 49 = .ok (.invokevirtual 177, 3) := by decide +kernel
theorem dX10_isForbidden_52 : decode cX10_isForbidden 52 = .ok (.ifCond .ne 7, 3) := by decide +kernel
theorem dX10_isForbidden_55 : decode cX10_isForbidden 55 = .ok (.iconst 1, 1) := by decide +kernel
theorem dX10_isForbidden_56 : decode cX10_isForbidden 56 = .ok (.goto 4, 3) := by decide +kernel
theorem dX10_isForbidden_59 : decode cX10_isForbidden 59 = .ok (.iconst 0, 1) := by decide +kernel
theorem dX10_isForbidden_60 : decode cX10_isForbidden 60 = .ok (.istore 5, 2) := by decide +kernel
theorem dX10_isForbidden_62 : decode cX10_isForbidden 62 = .ok (.iload_n 3, 1) := by decide +kernel
theorem dX10_isForbidden_63 : decode cX10_isForbidden 63 = .ok (.ifCond .ne 17, 3) := by decide +kernel
theorem dX10_isForbidden_66 : decode cX10_isForbidden 66 = .ok (.iload 5, 2) := by decide +kernel
theorem dX10_isForbidden_68 : decode cX10_isForbidden 68 = .ok (.ifCond .eq 16, 3) := by decide +kernel
theorem dX10_isForbidden_71 : decode cX10_isForbidden 71 = .ok (.iload_n 1, 1) := by decide +kernel
theorem dX10_isForbidden_72 : decode cX10_isForbidden 72 = .ok (.iload 4, 2) := by decide +kernel
theorem dX10_isForbidden_74 : decode cX10_isForbidden 74 = .ok (.invokestatic 204, 3) := by decide +kernel
theorem dX10_isForbidden_77 : decode cX10_isForbidden 77 = .ok (.ifCond .le 7, 3) := by decide +kernel
theorem dX10_isForbidden_80 : decode cX10_isForbidden 80 = .ok (.iconst 1, 1) := by decide +kernel
theorem dX10_isForbidden_81 : decode cX10_isForbidden 81 = .ok (.goto 4, 3) := by decide +kernel
theorem dX10_isForbidden_84 : decode cX10_isForbidden 84 = .ok (.iconst 0, 1) := by decide +kernel
theorem dX10_isForbidden_85 : decode cX10_isForbidden 85 = .ok (.istore_n 3, 1) := by decide +kernel
theorem dX10_isForbidden_86 : decode cX10_isForbidden 86 = .ok (.iinc 4 1, 3) := by decide +kernel
theorem dX10_isForbidden_89 : decode cX10_isForbidden 89 = .ok (.goto (-84), 3) := by decide +kernel
theorem dX10_isForbidden_92 : decode cX10_isForbidden 92 = .ok (.iload_n 3, 1) := by decide +kernel
theorem dX10_isForbidden_93 : decode cX10_isForbidden 93 = .ok (.ireturn, 1) := by decide +kernel
theorem dX10_mixColour_0 : decode cX10_mixColour 0 = .ok (.iconst 0, 1) := by decide +kernel
theorem dX10_mixColour_1 : decode cX10_mixColour 1 = .ok (.istore_n 3, 1) := by decide +kernel
theorem dX10_mixColour_2 : decode cX10_mixColour 2 = .ok (.iconst 0, 1) := by decide +kernel
theorem dX10_mixColour_3 : decode cX10_mixColour 3 = .ok (.istore 4, 2) := by decide +kernel
theorem dX10_mixColour_5 : decode cX10_mixColour 5 = .ok (.iload 4, 2) := by decide +kernel
theorem dX10_mixColour_7 : decode cX10_mixColour 7 = .ok (.aload_n 0, 1) := by decide +kernel
theorem dX10_mixColour_8 : decode cX10_mixColour 8 = .ok (.getfield 9, 3) := by decide +kernel
theorem dX10_mixColour_11 : decode cX10_mixColour 11 = .ok (.iconst 1, 1) := by decide +kernel
theorem dX10_mixColour_12 : decode cX10_mixColour 12 = .ok (.iaload, 1) := by decide +kernel
theorem dX10_mixColour_13 : decode cX10_mixColour 13 = .ok (.if_icmp .ge 26, 3) := by decide +kernel
theorem dX10_mixColour_16 : decode cX10_mixColour 16 = .ok (.iload_n 3, 1) := by decide +kernel
theorem dX10_mixColour_17 : decode cX10_mixColour 17 = .ok (.iload_n 1, 1) := by decide +kernel
theorem dX10_mixColour_18 : decode cX10_mixColour 18 = .ok (.iload 4, 2) := by decide +kernel
theorem dX10_mixColour_20 : decode cX10_mixColour 20 = .ok (.invokestatic 204, 3) := by decide +kernel
theorem dX10_mixColour_23 : decode cX10_mixColour 23 = .ok (.aload_n 0, 1) := by decide +kernel
theorem dX10_mixColour_24 : decode cX10_mixColour 24 = .ok (.iload 4, 2) := by decide +kernel
theorem dX10_mixColour_26 : decode cX10_mixColour 26 = .ok (.iload_n 2, 1) := by decide +kernel
theorem dX10_mixColour_27 : decode cX10_mixColour 27 = .ok (.invokevirtual 207, 3) := by decide +kernel
theorem dX10_mixColour_30 : decode cX10_mixColour 30 = .ok (.imul, 1) := by decide +kernel
theorem dX10_mixColour_31 : decode cX10_mixColour 31 = .ok (.iadd, 1) := by decide +kernel
theorem dX10_mixColour_32 : decode cX10_mixColour 32 = .ok (.istore_n 3, 1) := by decide +kernel
theorem dX10_mixColour_33 : decode cX10_mixColour 33 = .ok (.iinc 4 1, 3) := by decide +kernel
theorem dX10_mixColour_36 : decode cX10_mixColour 36 = .ok (.goto (-31), 3) := by decide +kernel
theorem dX10_mixColour_39 : decode cX10_mixColour 39 = .ok (.iload_n 3, 1) := by decide +kernel
theorem dX10_mixColour_40 : decode cX10_mixColour 40 = .ok (.invokestatic 210, 3) := by decide +kernel
theorem dX10_mixColour_43 : decode cX10_mixColour 43 = .ok (.ireturn, 1) := by decide +kernel
theorem dX10_colour_0 : decode cX10_colour 0 = .ok (.aload_n 0, 1) := by decide +kernel
theorem dX10_colour_1 : decode cX10_colour 1 = .ok (.iload_n 1, 1) := by decide +kernel
theorem dX10_colour_2 : decode cX10_colour 2 = .ok (.invokevirtual 213, 3) := by decide +kernel
theorem dX10_colour_5 : decode cX10_colour 5 = .ok (.ifCond .eq 10, 3) := by decide +kernel
theorem dX10_colour_8 : decode cX10_colour 8 = .ok (.iload_n 2, 1) := by decide +kernel
theorem dX10_colour_9 : decode cX10_colour 9 = .ok (.invokestatic 216, 3) := by decide +kernel
theorem dX10_colour_12 : decode cX10_colour 12 = .ok (.ifCond .ne 10, 3) := by decide +kernel
theorem dX10_colour_15 : decode cX10_colour 15 = .ok (.aload_n 0, 1) := by decide +kernel
theorem dX10_colour_16 : decode cX10_colour 16 = .ok (.ldc 74, 2) := by decide +kernel
theorem dX10_colour_18 : decode cX10_colour 18 = .ok (.invokevirtual 75, 3) := by decide +kernel
theorem dX10_colour_21 : decode cX10_colour 21 = .ok (.ireturn, 1) := by decide +kernel
theorem dX10_colour_22 : decode cX10_colour 22 = .ok (.aload_n 0, 1) := by decide +kernel
theorem dX10_colour_23 : decode cX10_colour 23 = .ok (.iload_n 1, 1) := by decide +kernel
theorem dX10_colour_24 : decode cX10_colour 24 = .ok (.iload_n 2, 1) := by decide +kernel
theorem dX10_colour_25 : decode cX10_colour 25 = .ok (.invokevirtual 219, 3) := by decide +kernel
theorem dX10_colour_28 : decode cX10_colour 28 = .ok (.ifCond .eq 12, 3) := by decide +kernel
theorem dX10_colour_31 : decode cX10_colour 31 = .ok (.aload_n 0, 1) := by decide +kernel
theorem dX10_colour_32 : decode cX10_colour 32 = .ok (.ldc 190, 2) := by decide +kernel
theorem dX10_colour_34 : decode cX10_colour 34 = .ok (.invokevirtual 75, 3) := by decide +kernel
theorem dX10_colour_37 : decode cX10_colour 37 = .ok (.goto 9, 3) := by decide +kernel
theorem dX10_colour_40 : decode cX10_colour 40 = .ok (.aload_n 0, 1) := by decide +kernel
theorem dX10_colour_41 : decode cX10_colour 41 = .ok (.iload_n 1, 1) := by decide +kernel
theorem dX10_colour_42 : decode cX10_colour 42 = .ok (.iload_n 2, 1) := by decide +kernel
theorem dX10_colour_43 : decode cX10_colour 43 = .ok (.invokevirtual 222, 3) := by decide +kernel
theorem dX10_colour_46 : decode cX10_colour 46 = .ok (.ireturn, 1) := by decide +kernel
theorem dX10_hasAll_0 : decode cX10_hasAll 0 = .ok (.iconst 1, 1) := by decide +kernel
theorem dX10_hasAll_1 : decode cX10_hasAll 1 = .ok (.istore_n 3, 1) := by decide +kernel
theorem dX10_hasAll_2 : decode cX10_hasAll 2 = .ok (.iconst 0, 1) := by decide +kernel
theorem dX10_hasAll_3 : decode cX10_hasAll 3 = .ok (.istore 4, 2) := by decide +kernel
theorem dX10_hasAll_5 : decode cX10_hasAll 5 = .ok (.iload 4, 2) := by decide +kernel
theorem dX10_hasAll_7 : decode cX10_hasAll 7 = .ok (.aload_n 0, 1) := by decide +kernel
theorem dX10_hasAll_8 : decode cX10_hasAll 8 = .ok (.getfield 9, 3) := by decide +kernel
theorem dX10_hasAll_11 : decode cX10_hasAll 11 = .ok (.iconst 1, 1) := by decide +kernel
theorem dX10_hasAll_12 : decode cX10_hasAll 12 = .ok (.iaload, 1) := by decide +kernel
theorem dX10_hasAll_13 : decode cX10_hasAll 13 = .ok (.if_icmp .ge 39, 3) := by decide +kernel
theorem dX10_hasAll_16 : decode cX10_hasAll 16 = .ok (.iload_n 3, 1) := by decide +kernel
theorem dX10_hasAll_17 : decode cX10_hasAll 17 = .ok (.ifCond .eq 27, 3) := by decide +kernel
theorem dX10_hasAll_20 : decode cX10_hasAll 20 = .ok (.aload_n 0, 1) := by decide +kernel
theorem dX10_hasAll_21 : decode cX10_hasAll 21 = .ok (.getfield 9, 3) := by decide +kernel
theorem dX10_hasAll_24 : decode cX10_hasAll 24 = .ok (.iload_n 1, 1) := by decide +kernel
theorem dX10_hasAll_25 : decode cX10_hasAll 25 = .ok (.iload 4, 2) := by decide +kernel
theorem dX10_hasAll_27 : decode cX10_hasAll 27 = .ok (.invokestatic 162, 3) := by decide +kernel
theorem dX10_hasAll_30 : decode cX10_hasAll 30 = .ok (.iaload, 1) := by decide +kernel
theorem dX10_hasAll_31 : decode cX10_hasAll 31 = .ok (.iload_n 2, 1) := by decide +kernel
theorem dX10_hasAll_32 : decode cX10_hasAll 32 = .ok (.iload 4, 2) := by decide +kernel
theorem dX10_hasAll_34 : decode cX10_hasAll 34 = .ok (.invokestatic 204, 3) := by decide +kernel
theorem dX10_hasAll_37 : decode cX10_hasAll 37 = .ok (.if_icmp .lt 7, 3) := by decide +kernel
theorem dX10_hasAll_40 : decode cX10_hasAll 40 = .ok (.iconst 1, 1) := by decide +kernel
theorem dX10_hasAll_41 : decode cX10_hasAll 41 = .ok (.goto 4, 3) := by decide +kernel
theorem dX10_hasAll_44 : decode cX10_hasAll 44 = .ok (.iconst 0, 1) := by decide +kernel
theorem dX10_hasAll_45 : decode cX10_hasAll 45 = .ok (.istore_n 3, 1) := by decide +kernel
theorem dX10_hasAll_46 : decode cX10_hasAll 46 = .ok (.iinc 4 1, 3) := by decide +kernel
theorem dX10_hasAll_49 : decode cX10_hasAll 49 = .ok (.goto (-44), 3) := by decide +kernel
theorem dX10_hasAll_52 : decode cX10_hasAll 52 = .ok (.iload_n 3, 1) := by decide +kernel
theorem dX10_hasAll_53 : decode cX10_hasAll 53 = .ok (.ireturn, 1) := by decide +kernel
theorem dX10_firesNow_0 : decode cX10_firesNow 0 = .ok (.iconst 0, 1) := by decide +kernel
theorem dX10_firesNow_1 : decode cX10_firesNow 1 = .ok (.istore 4, 2) := by decide +kernel
theorem dX10_firesNow_3 : decode cX10_firesNow 3 = .ok (.iload 4, 2) := by decide +kernel
theorem dX10_firesNow_5 : decode cX10_firesNow 5 = .ok (.aload_n 0, 1) := by decide +kernel
theorem dX10_firesNow_6 : decode cX10_firesNow 6 = .ok (.getfield 9, 3) := by decide +kernel
theorem dX10_firesNow_9 : decode cX10_firesNow 9 = .ok (.iconst 1, 1) := by decide +kernel
theorem dX10_firesNow_10 : decode cX10_firesNow 10 = .ok (.iaload, 1) := by decide +kernel
theorem dX10_firesNow_11 : decode cX10_firesNow 11 = .ok (.if_icmp .ge 29, 3) := by decide +kernel
theorem dX10_firesNow_14 : decode cX10_firesNow 14 = .ok (.aload_n 0, 1) := by decide +kernel
theorem dX10_firesNow_15 : decode cX10_firesNow 15 = .ok (.getfield 9, 3) := by decide +kernel
theorem dX10_firesNow_18 : decode cX10_firesNow 18 = .ok (.iload_n 1, 1) := by decide +kernel
theorem dX10_firesNow_19 : decode cX10_firesNow 19 = .ok (.iload 4, 2) := by decide +kernel
theorem dX10_firesNow_21 : decode cX10_firesNow 21 = .ok (.invokestatic 162, 3) := by decide +kernel
theorem dX10_firesNow_24 : decode cX10_firesNow 24 = .ok (.dup2, 1) := by decide +kernel
theorem dX10_firesNow_25 : decode cX10_firesNow 25 = .ok (.iaload, 1) := by decide +kernel
theorem dX10_firesNow_26 : decode cX10_firesNow 26 = .ok (.iload_n 2, 1) := by decide +kernel
theorem dX10_firesNow_27 : decode cX10_firesNow 27 = .ok (.iload 4, 2) := by decide +kernel
theorem dX10_firesNow_29 : decode cX10_firesNow 29 = .ok (.invokestatic 204, 3) := by decide +kernel
theorem dX10_firesNow_32 : decode cX10_firesNow 32 = .ok (.isub, 1) := by decide +kernel
theorem dX10_firesNow_33 : decode cX10_firesNow 33 = .ok (.iastore, 1) := by decide +kernel
theorem dX10_firesNow_34 : decode cX10_firesNow 34 = .ok (.iinc 4 1, 3) := by decide +kernel
theorem dX10_firesNow_37 : decode cX10_firesNow 37 = .ok (.goto (-34), 3) := by decide +kernel
theorem dX10_firesNow_40 : decode cX10_firesNow 40 = .ok (.aload_n 0, 1) := by decide +kernel
theorem dX10_firesNow_41 : decode cX10_firesNow 41 = .ok (.getfield 9, 3) := by decide +kernel
theorem dX10_firesNow_44 : decode cX10_firesNow 44 = .ok (.iload_n 1, 1) := by decide +kernel
theorem dX10_firesNow_45 : decode cX10_firesNow 45 = .ok (.iconst 0, 1) := by decide +kernel
theorem dX10_firesNow_46 : decode cX10_firesNow 46 = .ok (.invokestatic 191, 3) := by decide +kernel
theorem dX10_firesNow_49 : decode cX10_firesNow 49 = .ok (.sipush 9999, 3) := by decide +kernel
theorem dX10_firesNow_52 : decode cX10_firesNow 52 = .ok (.aload_n 0, 1) := by decide +kernel
theorem dX10_firesNow_53 : decode cX10_firesNow 53 = .ok (.getfield 9, 3) := by decide +kernel
theorem dX10_firesNow_56 : decode cX10_firesNow 56 = .ok (.iload_n 1, 1) := by decide +kernel
theorem dX10_firesNow_57 : decode cX10_firesNow 57 = .ok (.iconst 0, 1) := by decide +kernel
theorem dX10_firesNow_58 : decode cX10_firesNow 58 = .ok (.invokestatic 191, 3) := by decide +kernel
theorem dX10_firesNow_61 : decode cX10_firesNow 61 = .ok (.iaload, 1) := by decide +kernel
theorem dX10_firesNow_62 : decode cX10_firesNow 62 = .ok (.iconst 1, 1) := by decide +kernel
theorem dX10_firesNow_63 : decode cX10_firesNow 63 = .ok (.iadd, 1) := by decide +kernel
theorem dX10_firesNow_64 : decode cX10_firesNow 64 = .ok (.invokestatic 57, 3) := by decide +kernel
theorem dX10_firesNow_67 : decode cX10_firesNow 67 = .ok (.iastore, 1) := by decide +kernel
theorem dX10_firesNow_68 : decode cX10_firesNow 68 = .ok (.aload_n 0, 1) := by decide +kernel
theorem dX10_firesNow_69 : decode cX10_firesNow 69 = .ok (.iload_n 2, 1) := by decide +kernel
theorem dX10_firesNow_70 : decode cX10_firesNow 70 = .ok (.iload_n 3, 1) := by decide +kernel
theorem dX10_firesNow_71 : decode cX10_firesNow 71 = .ok (.invokevirtual 222, 3) := by decide +kernel
theorem dX10_firesNow_74 : decode cX10_firesNow 74 = .ok (.ireturn, 1) := by decide +kernel
theorem dX10_fire_0 : decode cX10_fire 0 = .ok (.aload_n 0, 1) := by decide +kernel
theorem dX10_fire_1 : decode cX10_fire 1 = .ok (.iload_n 1, 1) := by decide +kernel
theorem dX10_fire_2 : decode cX10_fire 2 = .ok (.invokevirtual 197, 3) := by decide +kernel
theorem dX10_fire_5 : decode cX10_fire 5 = .ok (.ifCond .eq 18, 3) := by decide +kernel
theorem dX10_fire_8 : decode cX10_fire 8 = .ok (.aload_n 0, 1) := by decide +kernel
theorem dX10_fire_9 : decode cX10_fire 9 = .ok (.iload_n 2, 1) := by decide +kernel
theorem dX10_fire_10 : decode cX10_fire 10 = .ok (.invokevirtual 213, 3) := by decide +kernel
theorem dX10_fire_13 : decode cX10_fire 13 = .ok (.ifCond .eq 10, 3) := by decide +kernel
theorem dX10_fire_16 : decode cX10_fire 16 = .ok (.iload_n 3, 1) := by decide +kernel
theorem dX10_fire_17 : decode cX10_fire 17 = .ok (.invokestatic 216, 3) := by decide +kernel
theorem dX10_fire_20 : decode cX10_fire 20 = .ok (.ifCond .ne 10, 3) := by decide +kernel
theorem dX10_fire_23 : decode cX10_fire 23 = .ok (.aload_n 0, 1) := by decide +kernel
theorem dX10_fire_24 : decode cX10_fire 24 = .ok (.ldc 74, 2) := by decide +kernel
theorem dX10_fire_26 : decode cX10_fire 26 = .ok (.invokevirtual 75, 3) := by decide +kernel
theorem dX10_fire_29 : decode cX10_fire 29 = .ok (.ireturn, 1) := by decide +kernel
theorem dX10_fire_30 : decode cX10_fire 30 = .ok (.iload_n 2, 1) := by decide +kernel
theorem dX10_fire_31 : decode cX10_fire 31 = .ok (.ifCond .ne 10, 3) := by decide +kernel
theorem dX10_fire_34 : decode cX10_fire 34 = .ok (.aload_n 0, 1) := by decide +kernel
theorem dX10_fire_35 : decode cX10_fire 35 = .ok (.ldc 225, 2) := by decide +kernel
theorem dX10_fire_37 : decode cX10_fire 37 = .ok (.invokevirtual 75, 3) := by decide +kernel
theorem dX10_fire_40 : decode cX10_fire 40 = .ok (.ireturn, 1) := by decide +kernel
theorem dX10_fire_41 : decode cX10_fire 41 = .ok (.aload_n 0, 1) := by decide +kernel
theorem dX10_fire_42 : decode cX10_fire 42 = .ok (.iload_n 1, 1) := by decide +kernel
theorem dX10_fire_43 : decode cX10_fire 43 = .ok (.iload_n 2, 1) := by decide +kernel
theorem dX10_fire_44 : decode cX10_fire 44 = .ok (.invokevirtual 226, 3) := by decide +kernel
theorem dX10_fire_47 : decode cX10_fire 47 = .ok (.ifCond .ne 10, 3) := by decide +kernel
theorem dX10_fire_50 : decode cX10_fire 50 = .ok (.aload_n 0, 1) := by decide +kernel
theorem dX10_fire_51 : decode cX10_fire 51 = .ok (.ldc 229, 2) := by decide +kernel
theorem dX10_fire_53 : decode cX10_fire 53 = .ok (.invokevirtual 75, 3) := by decide +kernel
theorem dX10_fire_56 : decode cX10_fire 56 = .ok (.ireturn, 1) := by decide +kernel
theorem dX10_fire_57 : decode cX10_fire 57 = .ok (.aload_n 0, 1) := by decide +kernel
theorem dX10_fire_58 : decode cX10_fire 58 = .ok (.iload_n 2, 1) := by decide +kernel
theorem dX10_fire_59 : decode cX10_fire 59 = .ok (.iload_n 3, 1) := by decide +kernel
theorem dX10_fire_60 : decode cX10_fire 60 = .ok (.invokevirtual 219, 3) := by decide +kernel
theorem dX10_fire_63 : decode cX10_fire 63 = .ok (.ifCond .eq 12, 3) := by decide +kernel
theorem dX10_fire_66 : decode cX10_fire 66 = .ok (.aload_n 0, 1) := by decide +kernel
theorem dX10_fire_67 : decode cX10_fire 67 = .ok (.ldc 190, 2) := by decide +kernel
theorem dX10_fire_69 : decode cX10_fire 69 = .ok (.invokevirtual 75, 3) := by decide +kernel
theorem dX10_fire_72 : decode cX10_fire 72 = .ok (.goto 10, 3) := by decide +kernel
theorem dX10_fire_75 : decode cX10_fire 75 = .ok (.aload_n 0, 1) := by decide +kernel
theorem dX10_fire_76 : decode cX10_fire 76 = .ok (.iload_n 1, 1) := by decide +kernel
theorem dX10_fire_77 : decode cX10_fire 77 = .ok (.iload_n 2, 1) := by decide +kernel
theorem dX10_fire_78 : decode cX10_fire 78 = .ok (.iload_n 3, 1) := by decide +kernel
theorem dX10_fire_79 : decode cX10_fire 79 = .ok (.invokevirtual 230, 3) := by decide +kernel
theorem dX10_fire_82 : decode cX10_fire 82 = .ok (.ireturn, 1) := by decide +kernel
theorem dX10_lendNow_0 : decode cX10_lendNow 0 = .ok (.aload_n 0, 1) := by decide +kernel
theorem dX10_lendNow_1 : decode cX10_lendNow 1 = .ok (.getfield 9, 3) := by decide +kernel
theorem dX10_lendNow_4 : decode cX10_lendNow 4 = .ok (.iconst 3, 1) := by decide +kernel
theorem dX10_lendNow_5 : decode cX10_lendNow 5 = .ok (.iaload, 1) := by decide +kernel
theorem dX10_lendNow_6 : decode cX10_lendNow 6 = .ok (.istore 6, 2) := by decide +kernel
theorem dX10_lendNow_8 : decode cX10_lendNow 8 = .ok (.aload_n 0, 1) := by decide +kernel
theorem dX10_lendNow_9 : decode cX10_lendNow 9 = .ok (.getfield 9, 3) := by decide +kernel
theorem dX10_lendNow_12 : decode cX10_lendNow 12 = .ok (.iload_n 1, 1) := by decide +kernel
theorem dX10_lendNow_13 : decode cX10_lendNow 13 = .ok (.iload_n 3, 1) := by decide +kernel
theorem dX10_lendNow_14 : decode cX10_lendNow 14 = .ok (.invokestatic 162, 3) := by decide +kernel
theorem dX10_lendNow_17 : decode cX10_lendNow 17 = .ok (.dup2, 1) := by decide +kernel
theorem dX10_lendNow_18 : decode cX10_lendNow 18 = .ok (.iaload, 1) := by decide +kernel
theorem dX10_lendNow_19 : decode cX10_lendNow 19 = .ok (.iload 4, 2) := by decide +kernel
theorem dX10_lendNow_21 : decode cX10_lendNow 21 = .ok (.isub, 1) := by decide +kernel
theorem dX10_lendNow_22 : decode cX10_lendNow 22 = .ok (.iastore, 1) := by decide +kernel
theorem dX10_lendNow_23 : decode cX10_lendNow 23 = .ok (.aload_n 0, 1) := by decide +kernel
theorem dX10_lendNow_24 : decode cX10_lendNow 24 = .ok (.getfield 9, 3) := by decide +kernel
theorem dX10_lendNow_27 : decode cX10_lendNow 27 = .ok (.iload_n 2, 1) := by decide +kernel
theorem dX10_lendNow_28 : decode cX10_lendNow 28 = .ok (.iload_n 3, 1) := by decide +kernel
theorem dX10_lendNow_29 : decode cX10_lendNow 29 = .ok (.invokestatic 162, 3) := by decide +kernel
theorem dX10_lendNow_32 : decode cX10_lendNow 32 = .ok (.dup2, 1) := by decide +kernel
theorem dX10_lendNow_33 : decode cX10_lendNow 33 = .ok (.iaload, 1) := by decide +kernel
theorem dX10_lendNow_34 : decode cX10_lendNow 34 = .ok (.iload 4, 2) := by decide +kernel
theorem dX10_lendNow_36 : decode cX10_lendNow 36 = .ok (.iadd, 1) := by decide +kernel
theorem dX10_lendNow_37 : decode cX10_lendNow 37 = .ok (.iastore, 1) := by decide +kernel
theorem dX10_lendNow_38 : decode cX10_lendNow 38 = .ok (.aload_n 0, 1) := by decide +kernel
theorem dX10_lendNow_39 : decode cX10_lendNow 39 = .ok (.getfield 9, 3) := by decide +kernel
theorem dX10_lendNow_42 : decode cX10_lendNow 42 = .ok (.iload 6, 2) := by decide +kernel
theorem dX10_lendNow_44 : decode cX10_lendNow 44 = .ok (.iconst 0, 1) := by decide +kernel
theorem dX10_lendNow_45 : decode cX10_lendNow 45 = .ok (.invokestatic 159, 3) := by decide +kernel
theorem dX10_lendNow_48 : decode cX10_lendNow 48 = .ok (.iload_n 1, 1) := by decide +kernel
theorem dX10_lendNow_49 : decode cX10_lendNow 49 = .ok (.iastore, 1) := by decide +kernel
theorem dX10_lendNow_50 : decode cX10_lendNow 50 = .ok (.aload_n 0, 1) := by decide +kernel
theorem dX10_lendNow_51 : decode cX10_lendNow 51 = .ok (.getfield 9, 3) := by decide +kernel
theorem dX10_lendNow_54 : decode cX10_lendNow 54 = .ok (.iload 6, 2) := by decide +kernel
theorem dX10_lendNow_56 : decode cX10_lendNow 56 = .ok (.iconst 1, 1) := by decide +kernel
theorem dX10_lendNow_57 : decode cX10_lendNow 57 = .ok (.invokestatic 159, 3) := by decide +kernel
theorem dX10_lendNow_60 : decode cX10_lendNow 60 = .ok (.iload_n 2, 1) := by decide +kernel
theorem dX10_lendNow_61 : decode cX10_lendNow 61 = .ok (.iastore, 1) := by decide +kernel
theorem dX10_lendNow_62 : decode cX10_lendNow 62 = .ok (.aload_n 0, 1) := by decide +kernel
theorem dX10_lendNow_63 : decode cX10_lendNow 63 = .ok (.getfield 9, 3) := by decide +kernel
theorem dX10_lendNow_66 : decode cX10_lendNow 66 = .ok (.iload 6, 2) := by decide +kernel
theorem dX10_lendNow_68 : decode cX10_lendNow 68 = .ok (.iconst 2, 1) := by decide +kernel
theorem dX10_lendNow_69 : decode cX10_lendNow 69 = .ok (.invokestatic 159, 3) := by decide +kernel
theorem dX10_lendNow_72 : decode cX10_lendNow 72 = .ok (.iload_n 3, 1) := by decide +kernel
theorem dX10_lendNow_73 : decode cX10_lendNow 73 = .ok (.iastore, 1) := by decide +kernel
theorem dX10_lendNow_74 : decode cX10_lendNow 74 = .ok (.aload_n 0, 1) := by decide +kernel
theorem dX10_lendNow_75 : decode cX10_lendNow 75 = .ok (.getfield 9, 3) := by decide +kernel
theorem dX10_lendNow_78 : decode cX10_lendNow 78 = .ok (.iload 6, 2) := by decide +kernel
theorem dX10_lendNow_80 : decode cX10_lendNow 80 = .ok (.iconst 3, 1) := by decide +kernel
theorem dX10_lendNow_81 : decode cX10_lendNow 81 = .ok (.invokestatic 159, 3) := by decide +kernel
theorem dX10_lendNow_84 : decode cX10_lendNow 84 = .ok (.iload 4, 2) := by decide +kernel
theorem dX10_lendNow_86 : decode cX10_lendNow 86 = .ok (.iastore, 1) := by decide +kernel
theorem dX10_lendNow_87 : decode cX10_lendNow 87 = .ok (.aload_n 0, 1) := by decide +kernel
theorem dX10_lendNow_88 : decode cX10_lendNow 88 = .ok (.getfield 9, 3) := by decide +kernel
theorem dX10_lendNow_91 : decode cX10_lendNow 91 = .ok (.iload 6, 2) := by decide +kernel
theorem dX10_lendNow_93 : decode cX10_lendNow 93 = .ok (.iconst 4, 1) := by decide +kernel
theorem dX10_lendNow_94 : decode cX10_lendNow 94 = .ok (.invokestatic 159, 3) := by decide +kernel
theorem dX10_lendNow_97 : decode cX10_lendNow 97 = .ok (.aload_n 0, 1) := by decide +kernel
theorem dX10_lendNow_98 : decode cX10_lendNow 98 = .ok (.getfield 9, 3) := by decide +kernel
theorem dX10_lendNow_101 : decode cX10_lendNow 101 = .ok (.iconst 0, 1) := by decide +kernel
theorem dX10_lendNow_102 : decode cX10_lendNow 102 = .ok (.iaload, 1) := by decide +kernel
theorem dX10_lendNow_103 : decode cX10_lendNow 103 = .ok (.iload 5, 2) := by decide +kernel
theorem dX10_lendNow_105 : decode cX10_lendNow 105 = .ok (.iadd, 1) := by decide +kernel
theorem dX10_lendNow_106 : decode cX10_lendNow 106 = .ok (.iastore, 1) := by decide +kernel
theorem dX10_lendNow_107 : decode cX10_lendNow 107 = .ok (.aload_n 0, 1) := by decide +kernel
theorem dX10_lendNow_108 : decode cX10_lendNow 108 = .ok (.getfield 9, 3) := by decide +kernel
theorem dX10_lendNow_111 : decode cX10_lendNow 111 = .ok (.iconst 3, 1) := by decide +kernel
theorem dX10_lendNow_112 : decode cX10_lendNow 112 = .ok (.dup2, 1) := by decide +kernel
theorem dX10_lendNow_113 : decode cX10_lendNow 113 = .ok (.iaload, 1) := by decide +kernel
theorem dX10_lendNow_114 : decode cX10_lendNow 114 = .ok (.iconst 1, 1) := by decide +kernel
theorem dX10_lendNow_115 : decode cX10_lendNow 115 = .ok (.iadd, 1) := by decide +kernel
theorem dX10_lendNow_116 : decode cX10_lendNow 116 = .ok (.iastore, 1) := by decide +kernel
theorem dX10_lendNow_117 : decode cX10_lendNow 117 = .ok (.iload 6, 2) := by decide +kernel
theorem dX10_lendNow_119 : decode cX10_lendNow 119 = .ok (.ireturn, 1) := by decide +kernel
theorem dX10_canLend_0 : decode cX10_canLend 0 = .ok (.aload_n 0, 1) := by decide +kernel
theorem dX10_canLend_1 : decode cX10_canLend 1 = .ok (.getfield 9, 3) := by decide +kernel
theorem dX10_canLend_4 : decode cX10_canLend 4 = .ok (.iload_n 1, 1) := by decide +kernel
theorem dX10_canLend_5 : decode cX10_canLend 5 = .ok (.iload_n 3, 1) := by decide +kernel
theorem dX10_canLend_6 : decode cX10_canLend 6 = .ok (.invokestatic 162, 3) := by decide +kernel
theorem dX10_canLend_9 : decode cX10_canLend 9 = .ok (.iaload, 1) := by decide +kernel
theorem dX10_canLend_10 : decode cX10_canLend 10 = .ok (.iload 4, 2) := by decide +kernel
theorem dX10_canLend_12 : decode cX10_canLend 12 = .ok (.if_icmp .lt 26, 3) := by decide +kernel
theorem dX10_canLend_15 : decode cX10_canLend 15 = .ok (.aload_n 0, 1) := by decide +kernel
theorem dX10_canLend_16 : decode cX10_canLend 16 = .ok (.getfield 9, 3) := by decide +kernel
theorem dX10_canLend_19 : decode cX10_canLend 19 = .ok (.iload_n 2, 1) := by decide +kernel
theorem dX10_canLend_20 : decode cX10_canLend 20 = .ok (.iload_n 3, 1) := by decide +kernel
theorem dX10_canLend_21 : decode cX10_canLend 21 = .ok (.invokestatic 162, 3) := by decide +kernel
theorem dX10_canLend_24 : decode cX10_canLend 24 = .ok (.iaload, 1) := by decide +kernel
theorem dX10_canLend_25 : decode cX10_canLend 25 = .ok (.iload 4, 2) := by decide +kernel
theorem dX10_canLend_27 : decode cX10_canLend 27 = .ok (.iadd, 1) := by decide +kernel
theorem dX10_canLend_28 : decode cX10_canLend 28 = .ok (.sipush 999, 3) := by decide +kernel
theorem dX10_canLend_31 : decode cX10_canLend 31 = .ok (.if_icmp .gt 7, 3) := by decide +kernel
theorem dX10_canLend_34 : decode cX10_canLend 34 = .ok (.iconst 1, 1) := by decide +kernel
theorem dX10_canLend_35 : decode cX10_canLend 35 = .ok (.goto 4, 3) := by decide +kernel
theorem dX10_canLend_38 : decode cX10_canLend 38 = .ok (.iconst 0, 1) := by decide +kernel
theorem dX10_canLend_39 : decode cX10_canLend 39 = .ok (.ireturn, 1) := by decide +kernel
theorem dX10_lend_0 : decode cX10_lend 0 = .ok (.aload_n 0, 1) := by decide +kernel
theorem dX10_lend_1 : decode cX10_lend 1 = .ok (.iload_n 1, 1) := by decide +kernel
theorem dX10_lend_2 : decode cX10_lend 2 = .ok (.invokevirtual 197, 3) := by decide +kernel
theorem dX10_lend_5 : decode cX10_lend 5 = .ok (.ifCond .eq 46, 3) := by decide +kernel
theorem dX10_lend_8 : decode cX10_lend 8 = .ok (.aload_n 0, 1) := by decide +kernel
theorem dX10_lend_9 : decode cX10_lend 9 = .ok (.iload_n 2, 1) := by decide +kernel
theorem dX10_lend_10 : decode cX10_lend 10 = .ok (.invokevirtual 197, 3) := by decide +kernel
theorem dX10_lend_13 : decode cX10_lend 13 = .ok (.ifCond .eq 38, 3) := by decide +kernel
theorem dX10_lend_16 : decode cX10_lend 16 = .ok (.iload_n 1, 1) := by decide +kernel
theorem dX10_lend_17 : decode cX10_lend 17 = .ok (.iload_n 2, 1) := by decide +kernel
theorem dX10_lend_18 : decode cX10_lend 18 = .ok (.if_icmp .eq 33, 3) := by decide +kernel
theorem dX10_lend_21 : decode cX10_lend 21 = .ok (.aload_n 0, 1) := by decide +kernel
theorem dX10_lend_22 : decode cX10_lend 22 = .ok (.iload_n 3, 1) := by decide +kernel
theorem dX10_lend_23 : decode cX10_lend 23 = .ok (.invokevirtual 171, 3) := by decide +kernel
theorem dX10_lend_26 : decode cX10_lend 26 = .ok (.ifCond .eq 25, 3) := by decide +kernel
theorem dX10_lend_29 : decode cX10_lend 29 = .ok (.iload 4, 2) := by decide +kernel
theorem dX10_lend_31 : decode cX10_lend 31 = .ok (.iconst 1, 1) := by decide +kernel
theorem dX10_lend_32 : decode cX10_lend 32 = .ok (.bipush 99, 2) := by decide +kernel
theorem dX10_lend_34 : decode cX10_lend 34 = .ok (.invokestatic 70, 3) := by decide +kernel
theorem dX10_lend_37 : decode cX10_lend 37 = .ok (.ifCond .eq 14, 3) := by decide +kernel
theorem dX10_lend_40 : decode cX10_lend 40 = .ok (.iload 5, 2) := by decide +kernel
theorem dX10_lend_42 : decode cX10_lend 42 = .ok (.iconst 1, 1) := by decide +kernel
theorem dX10_lend_43 : decode cX10_lend 43 = .ok (.bipush 60, 2) := by decide +kernel
theorem dX10_lend_45 : decode cX10_lend 45 = .ok (.invokestatic 70, 3) := by decide +kernel
theorem dX10_lend_48 : decode cX10_lend 48 = .ok (.ifCond .ne 10, 3) := by decide +kernel
theorem dX10_lend_51 : decode cX10_lend 51 = .ok (.aload_n 0, 1) := by decide +kernel
theorem dX10_lend_52 : decode cX10_lend 52 = .ok (.ldc 74, 2) := by decide +kernel
theorem dX10_lend_54 : decode cX10_lend 54 = .ok (.invokevirtual 75, 3) := by decide +kernel
theorem dX10_lend_57 : decode cX10_lend 57 = .ok (.ireturn, 1) := by decide +kernel
theorem dX10_lend_58 : decode cX10_lend 58 = .ok (.aload_n 0, 1) := by decide +kernel
theorem dX10_lend_59 : decode cX10_lend 59 = .ok (.iload_n 1, 1) := by decide +kernel
theorem dX10_lend_60 : decode cX10_lend 60 = .ok (.iload_n 2, 1) := by decide +kernel
theorem dX10_lend_61 : decode cX10_lend 61 = .ok (.iload_n 3, 1) := by decide +kernel
theorem dX10_lend_62 : decode cX10_lend 62 = .ok (.iload 4, 2) := by decide +kernel
theorem dX10_lend_64 : decode cX10_lend 64 = .ok (.invokevirtual 233, 3) := by decide +kernel
theorem dX10_lend_67 : decode cX10_lend 67 = .ok (.ifCond .ne 10, 3) := by decide +kernel
theorem dX10_lend_70 : decode cX10_lend 70 = .ok (.aload_n 0, 1) := by decide +kernel
theorem dX10_lend_71 : decode cX10_lend 71 = .ok (.ldc 229, 2) := by decide +kernel
theorem dX10_lend_73 : decode cX10_lend 73 = .ok (.invokevirtual 75, 3) := by decide +kernel
theorem dX10_lend_76 : decode cX10_lend 76 = .ok (.ireturn, 1) := by decide +kernel
theorem dX10_lend_77 : decode cX10_lend 77 = .ok (.aload_n 0, 1) := by decide +kernel
theorem dX10_lend_78 : decode cX10_lend 78 = .ok (.getfield 9, 3) := by decide +kernel
theorem dX10_lend_81 : decode cX10_lend 81 = .ok (.iconst 3, 1) := by decide +kernel
theorem dX10_lend_82 : decode cX10_lend 82 = .ok (.iaload, 1) := by decide +kernel
theorem dX10_lend_83 : decode cX10_lend 83 = .ok (.bipush 10, 2) := by decide +kernel
theorem dX10_lend_85 : decode cX10_lend 85 = .ok (.if_icmp .ne 12, 3) := by decide +kernel
theorem dX10_lend_88 : decode cX10_lend 88 = .ok (.aload_n 0, 1) := by decide +kernel
theorem dX10_lend_89 : decode cX10_lend 89 = .ok (.ldc 79, 2) := by decide +kernel
theorem dX10_lend_91 : decode cX10_lend 91 = .ok (.invokevirtual 75, 3) := by decide +kernel
theorem dX10_lend_94 : decode cX10_lend 94 = .ok (.goto 14, 3) := by decide +kernel
theorem dX10_lend_97 : decode cX10_lend 97 = .ok (.aload_n 0, 1) := by decide +kernel
theorem dX10_lend_98 : decode cX10_lend 98 = .ok (.iload_n 1, 1) := by decide +kernel
theorem dX10_lend_99 : decode cX10_lend 99 = .ok (.iload_n 2, 1) := by decide +kernel
theorem dX10_lend_100 : decode cX10_lend 100 = .ok (.iload_n 3, 1) := by decide +kernel
theorem dX10_lend_101 : decode cX10_lend 101 = .ok (.iload 4, 2) := by decide +kernel
theorem dX10_lend_103 : decode cX10_lend 103 = .ok (.iload 5, 2) := by decide +kernel
theorem dX10_lend_105 : decode cX10_lend 105 = .ok (.invokevirtual 237, 3) := by decide +kernel
theorem dX10_lend_108 : decode cX10_lend 108 = .ok (.ireturn, 1) := by decide +kernel
theorem dX10_ofLoan_0 : decode cX10_ofLoan 0 = .ok (.aload_n 0, 1) := by decide +kernel
theorem dX10_ofLoan_1 : decode cX10_ofLoan 1 = .ok (.iload_n 1, 1) := by decide +kernel
theorem dX10_ofLoan_2 : decode cX10_ofLoan 2 = .ok (.invokevirtual 241, 3) := by decide +kernel
theorem dX10_ofLoan_5 : decode cX10_ofLoan 5 = .ok (.ifCond .eq 21, 3) := by decide +kernel
theorem dX10_ofLoan_8 : decode cX10_ofLoan 8 = .ok (.iload_n 2, 1) := by decide +kernel
theorem dX10_ofLoan_9 : decode cX10_ofLoan 9 = .ok (.iconst 0, 1) := by decide +kernel
theorem dX10_ofLoan_10 : decode cX10_ofLoan 10 = .ok (.iconst 4, 1) := by decide +kernel
theorem dX10_ofLoan_11 : decode cX10_ofLoan 11 = .ok (.invokestatic 70, 3) := by decide +kernel
theorem dX10_ofLoan_14 : decode cX10_ofLoan 14 = .ok (.ifCond .eq 12, 3) := by decide +kernel
theorem dX10_ofLoan_17 : decode cX10_ofLoan 17 = .ok (.aload_n 0, 1) := by decide +kernel
theorem dX10_ofLoan_18 : decode cX10_ofLoan 18 = .ok (.iload_n 1, 1) := by decide +kernel
theorem dX10_ofLoan_19 : decode cX10_ofLoan 19 = .ok (.iload_n 2, 1) := by decide +kernel
theorem dX10_ofLoan_20 : decode cX10_ofLoan 20 = .ok (.invokevirtual 194, 3) := by decide +kernel
theorem dX10_ofLoan_23 : decode cX10_ofLoan 23 = .ok (.goto 9, 3) := by decide +kernel
theorem dX10_ofLoan_26 : decode cX10_ofLoan 26 = .ok (.aload_n 0, 1) := by decide +kernel
theorem dX10_ofLoan_27 : decode cX10_ofLoan 27 = .ok (.ldc 74, 2) := by decide +kernel
theorem dX10_ofLoan_29 : decode cX10_ofLoan 29 = .ok (.invokevirtual 75, 3) := by decide +kernel
theorem dX10_ofLoan_32 : decode cX10_ofLoan 32 = .ok (.ireturn, 1) := by decide +kernel
theorem dX10_canGiveBack_0 : decode cX10_canGiveBack 0 = .ok (.aload_n 0, 1) := by decide +kernel
theorem dX10_canGiveBack_1 : decode cX10_canGiveBack 1 = .ok (.getfield 9, 3) := by decide +kernel
theorem dX10_canGiveBack_4 : decode cX10_canGiveBack 4 = .ok (.aload_n 0, 1) := by decide +kernel
theorem dX10_canGiveBack_5 : decode cX10_canGiveBack 5 = .ok (.iload_n 1, 1) := by decide +kernel
theorem dX10_canGiveBack_6 : decode cX10_canGiveBack 6 = .ok (.iconst 1, 1) := by decide +kernel
theorem dX10_canGiveBack_7 : decode cX10_canGiveBack 7 = .ok (.invokevirtual 194, 3) := by decide +kernel
theorem dX10_canGiveBack_10 : decode cX10_canGiveBack 10 = .ok (.aload_n 0, 1) := by decide +kernel
theorem dX10_canGiveBack_11 : decode cX10_canGiveBack 11 = .ok (.iload_n 1, 1) := by decide +kernel
theorem dX10_canGiveBack_12 : decode cX10_canGiveBack 12 = .ok (.iconst 2, 1) := by decide +kernel
theorem dX10_canGiveBack_13 : decode cX10_canGiveBack 13 = .ok (.invokevirtual 194, 3) := by decide +kernel
theorem dX10_canGiveBack_16 : decode cX10_canGiveBack 16 = .ok (.invokestatic 162, 3) := by decide +kernel
theorem dX10_canGiveBack_19 : decode cX10_canGiveBack 19 = .ok (.iaload, 1) := by decide +kernel
theorem dX10_canGiveBack_20 : decode cX10_canGiveBack 20 = .ok (.aload_n 0, 1) := by decide +kernel
theorem dX10_canGiveBack_21 : decode cX10_canGiveBack 21 = .ok (.iload_n 1, 1) := by decide +kernel
theorem dX10_canGiveBack_22 : decode cX10_canGiveBack 22 = .ok (.iconst 3, 1) := by decide +kernel
theorem dX10_canGiveBack_23 : decode cX10_canGiveBack 23 = .ok (.invokevirtual 194, 3) := by decide +kernel
theorem dX10_canGiveBack_26 : decode cX10_canGiveBack 26 = .ok (.if_icmp .lt 7, 3) := by decide +kernel
theorem dX10_canGiveBack_29 : decode cX10_canGiveBack 29 = .ok (.iconst 1, 1) := by decide +kernel
theorem dX10_canGiveBack_30 : decode cX10_canGiveBack 30 = .ok (.goto 4, 3) := by decide +kernel
theorem dX10_canGiveBack_33 : decode cX10_canGiveBack 33 = .ok (.iconst 0, 1) := by decide +kernel
theorem dX10_canGiveBack_34 : decode cX10_canGiveBack 34 = .ok (.ireturn, 1) := by decide +kernel
theorem dX10_goes_0 : decode cX10_goes 0 = .ok (.iload_n 1, 1) := by decide +kernel
theorem dX10_goes_1 : decode cX10_goes 1 = .ok (.istore_n 2, 1) := by decide +kernel
theorem dX10_goes_2 : decode cX10_goes 2 = .ok (.iload_n 2, 1) := by decide +kernel
theorem dX10_goes_3 : decode cX10_goes 3 = .ok (.iconst 1, 1) := by decide +kernel
theorem dX10_goes_4 : decode cX10_goes 4 = .ok (.iadd, 1) := by decide +kernel
theorem dX10_goes_5 : decode cX10_goes 5 = .ok (.aload_n 0, 1) := by decide +kernel
theorem dX10_goes_6 : decode cX10_goes 6 = .ok (.getfield 9, 3) := by decide +kernel
theorem dX10_goes_9 : decode cX10_goes 9 = .ok (.iconst 3, 1) := by decide +kernel
theorem dX10_goes_10 : decode cX10_goes 10 = .ok (.iaload, 1) := by decide +kernel
theorem dX10_goes_11 : decode cX10_goes 11 = .ok (.if_icmp .ge 40, 3) := by decide +kernel
theorem dX10_goes_14 : decode cX10_goes 14 = .ok (.iconst 0, 1) := by decide +kernel
theorem dX10_goes_15 : decode cX10_goes 15 = .ok (.istore_n 3, 1) := by decide +kernel
theorem dX10_goes_16 : decode cX10_goes 16 = .ok (.iload_n 3, 1) := by decide +kernel
theorem dX10_goes_17 : decode cX10_goes 17 = .ok (.iconst 5, 1) := by decide +kernel
theorem dX10_goes_18 : decode cX10_goes 18 = .ok (.if_icmp .ge 27, 3) := by decide +kernel
theorem dX10_goes_21 : decode cX10_goes 21 = .ok (.aload_n 0, 1) := by decide +kernel
theorem dX10_goes_22 : decode cX10_goes 22 = .ok (.getfield 9, 3) := by decide +kernel
theorem dX10_goes_25 : decode cX10_goes 25 = .ok (.iload_n 2, 1) := by decide +kernel
theorem dX10_goes_26 : decode cX10_goes 26 = .ok (.iload_n 3, 1) := by decide +kernel
theorem dX10_goes_27 : decode cX10_goes 27 = .ok (.invokestatic 159, 3) := by decide +kernel
theorem dX10_goes_30 : decode cX10_goes 30 = .ok (.aload_n 0, 1) := by decide +kernel
theorem dX10_goes_31 : decode cX10_goes 31 = .ok (.iload_n 2, 1) := by decide +kernel
theorem dX10_goes_32 : decode cX10_goes 32 = .ok (.iconst 1, 1) := by decide +kernel
theorem dX10_goes_33 : decode cX10_goes 33 = .ok (.iadd, 1) := by decide +kernel
theorem dX10_goes_34 : decode cX10_goes 34 = .ok (.iload_n 3, 1) := by decide +kernel
theorem dX10_goes_35 : decode cX10_goes 35 = .ok (.invokevirtual 194, 3) := by decide +kernel
theorem dX10_goes_38 : decode cX10_goes 38 = .ok (.iastore, 1) := by decide +kernel
theorem dX10_goes_39 : decode cX10_goes 39 = .ok (.iinc 3 1, 3) := by decide +kernel
theorem dX10_goes_42 : decode cX10_goes 42 = .ok (.goto (-26), 3) := by decide +kernel
theorem dX10_goes_45 : decode cX10_goes 45 = .ok (.iinc 2 1, 3) := by decide +kernel
theorem dX10_goes_48 : decode cX10_goes 48 = .ok (.goto (-46), 3) := by decide +kernel
theorem dX10_goes_51 : decode cX10_goes 51 = .ok (.aload_n 0, 1) := by decide +kernel
theorem dX10_goes_52 : decode cX10_goes 52 = .ok (.getfield 9, 3) := by decide +kernel
theorem dX10_goes_55 : decode cX10_goes 55 = .ok (.iconst 3, 1) := by decide +kernel
theorem dX10_goes_56 : decode cX10_goes 56 = .ok (.dup2, 1) := by decide +kernel
theorem dX10_goes_57 : decode cX10_goes 57 = .ok (.iaload, 1) := by decide +kernel
theorem dX10_goes_58 : decode cX10_goes 58 = .ok (.iconst 1, 1) := by decide +kernel
theorem dX10_goes_59 : decode cX10_goes 59 = .ok (.isub, 1) := by decide +kernel
theorem dX10_goes_60 : decode cX10_goes 60 = .ok (.iastore, 1) := by decide +kernel
theorem dX10_goes_61 : decode cX10_goes 61 = .ok (.return_, 1) := by decide +kernel
theorem dX10_givesBack_0 : decode cX10_givesBack 0 = .ok (.aload_n 0, 1) := by decide +kernel
theorem dX10_givesBack_1 : decode cX10_givesBack 1 = .ok (.iload_n 1, 1) := by decide +kernel
theorem dX10_givesBack_2 : decode cX10_givesBack 2 = .ok (.iconst 2, 1) := by decide +kernel
theorem dX10_givesBack_3 : decode cX10_givesBack 3 = .ok (.invokevirtual 194, 3) := by decide +kernel
theorem dX10_givesBack_6 : decode cX10_givesBack 6 = .ok (.istore_n 2, 1) := by decide +kernel
theorem dX10_givesBack_7 : decode cX10_givesBack 7 = .ok (.aload_n 0, 1) := by decide +kernel
theorem dX10_givesBack_8 : decode cX10_givesBack 8 = .ok (.iload_n 1, 1) := by decide +kernel
theorem dX10_givesBack_9 : decode cX10_givesBack 9 = .ok (.iconst 3, 1) := by decide +kernel
theorem dX10_givesBack_10 : decode cX10_givesBack 10 = .ok (.invokevirtual 194, 3) := by decide +kernel
theorem dX10_givesBack_13 : decode cX10_givesBack 13 = .ok (.istore_n 3, 1) := by decide +kernel
theorem dX10_givesBack_14 : decode cX10_givesBack 14 = .ok (.aload_n 0, 1) := by decide +kernel
theorem dX10_givesBack_15 : decode cX10_givesBack 15 = .ok (.iconst 1, 1) := by decide +kernel
theorem dX10_givesBack_16 : decode cX10_givesBack 16 = .ok (.iload_n 3, 1) := by decide +kernel
theorem dX10_givesBack_17 : decode cX10_givesBack 17 = .ok (.aload_n 0, 1) := by decide +kernel
theorem dX10_givesBack_18 : decode cX10_givesBack 18 = .ok (.iload_n 2, 1) := by decide +kernel
theorem dX10_givesBack_19 : decode cX10_givesBack 19 = .ok (.iconst 1, 1) := by decide +kernel
theorem dX10_givesBack_20 : decode cX10_givesBack 20 = .ok (.invokevirtual 177, 3) := by decide +kernel
theorem dX10_givesBack_23 : decode cX10_givesBack 23 = .ok (.aload_n 0, 1) := by decide +kernel
theorem dX10_givesBack_24 : decode cX10_givesBack 24 = .ok (.getfield 9, 3) := by decide +kernel
theorem dX10_givesBack_27 : decode cX10_givesBack 27 = .ok (.iconst 0, 1) := by decide +kernel
theorem dX10_givesBack_28 : decode cX10_givesBack 28 = .ok (.iaload, 1) := by decide +kernel
theorem dX10_givesBack_29 : decode cX10_givesBack 29 = .ok (.invokevirtual 152, 3) := by decide +kernel
theorem dX10_givesBack_32 : decode cX10_givesBack 32 = .ok (.istore 4, 2) := by decide +kernel
theorem dX10_givesBack_34 : decode cX10_givesBack 34 = .ok (.aload_n 0, 1) := by decide +kernel
theorem dX10_givesBack_35 : decode cX10_givesBack 35 = .ok (.iload_n 1, 1) := by decide +kernel
theorem dX10_givesBack_36 : decode cX10_givesBack 36 = .ok (.iconst 0, 1) := by decide +kernel
theorem dX10_givesBack_37 : decode cX10_givesBack 37 = .ok (.invokevirtual 194, 3) := by decide +kernel
theorem dX10_givesBack_40 : decode cX10_givesBack 40 = .ok (.iload_n 2, 1) := by decide +kernel
theorem dX10_givesBack_41 : decode cX10_givesBack 41 = .ok (.invokestatic 162, 3) := by decide +kernel
theorem dX10_givesBack_44 : decode cX10_givesBack 44 = .ok (.istore 5, 2) := by decide +kernel
theorem dX10_givesBack_46 : decode cX10_givesBack 46 = .ok (.aload_n 0, 1) := by decide +kernel
theorem dX10_givesBack_47 : decode cX10_givesBack 47 = .ok (.getfield 9, 3) := by decide +kernel
theorem dX10_givesBack_50 : decode cX10_givesBack 50 = .ok (.aload_n 0, 1) := by decide +kernel
theorem dX10_givesBack_51 : decode cX10_givesBack 51 = .ok (.iload_n 1, 1) := by decide +kernel
theorem dX10_givesBack_52 : decode cX10_givesBack 52 = .ok (.iconst 1, 1) := by decide +kernel
theorem dX10_givesBack_53 : decode cX10_givesBack 53 = .ok (.invokevirtual 194, 3) := by decide +kernel
theorem dX10_givesBack_56 : decode cX10_givesBack 56 = .ok (.iload_n 2, 1) := by decide +kernel
theorem dX10_givesBack_57 : decode cX10_givesBack 57 = .ok (.invokestatic 162, 3) := by decide +kernel
theorem dX10_givesBack_60 : decode cX10_givesBack 60 = .ok (.dup2, 1) := by decide +kernel
theorem dX10_givesBack_61 : decode cX10_givesBack 61 = .ok (.iaload, 1) := by decide +kernel
theorem dX10_givesBack_62 : decode cX10_givesBack 62 = .ok (.iload_n 3, 1) := by decide +kernel
theorem dX10_givesBack_63 : decode cX10_givesBack 63 = .ok (.isub, 1) := by decide +kernel
theorem dX10_givesBack_64 : decode cX10_givesBack 64 = .ok (.iastore, 1) := by decide +kernel
theorem dX10_givesBack_65 : decode cX10_givesBack 65 = .ok (.aload_n 0, 1) := by decide +kernel
theorem dX10_givesBack_66 : decode cX10_givesBack 66 = .ok (.getfield 9, 3) := by decide +kernel
theorem dX10_givesBack_69 : decode cX10_givesBack 69 = .ok (.iload 5, 2) := by decide +kernel
theorem dX10_givesBack_71 : decode cX10_givesBack 71 = .ok (.sipush 999, 3) := by decide +kernel
theorem dX10_givesBack_74 : decode cX10_givesBack 74 = .ok (.aload_n 0, 1) := by decide +kernel
theorem dX10_givesBack_75 : decode cX10_givesBack 75 = .ok (.getfield 9, 3) := by decide +kernel
theorem dX10_givesBack_78 : decode cX10_givesBack 78 = .ok (.iload 5, 2) := by decide +kernel
theorem dX10_givesBack_80 : decode cX10_givesBack 80 = .ok (.iaload, 1) := by decide +kernel
theorem dX10_givesBack_81 : decode cX10_givesBack 81 = .ok (.iload 4, 2) := by decide +kernel
theorem dX10_givesBack_83 : decode cX10_givesBack 83 = .ok (.iadd, 1) := by decide +kernel
theorem dX10_givesBack_84 : decode cX10_givesBack 84 = .ok (.invokestatic 57, 3) := by decide +kernel
theorem dX10_givesBack_87 : decode cX10_givesBack 87 = .ok (.iastore, 1) := by decide +kernel
theorem dX10_givesBack_88 : decode cX10_givesBack 88 = .ok (.aload_n 0, 1) := by decide +kernel
theorem dX10_givesBack_89 : decode cX10_givesBack 89 = .ok (.iload_n 1, 1) := by decide +kernel
theorem dX10_givesBack_90 : decode cX10_givesBack 90 = .ok (.invokevirtual 244, 3) := by decide +kernel
theorem dX10_givesBack_93 : decode cX10_givesBack 93 = .ok (.iload 4, 2) := by decide +kernel
theorem dX10_givesBack_95 : decode cX10_givesBack 95 = .ok (.ireturn, 1) := by decide +kernel
theorem dX10_back_0 : decode cX10_back 0 = .ok (.aload_n 0, 1) := by decide +kernel
theorem dX10_back_1 : decode cX10_back 1 = .ok (.iload_n 1, 1) := by decide +kernel
theorem dX10_back_2 : decode cX10_back 2 = .ok (.invokevirtual 241, 3) := by decide +kernel
theorem dX10_back_5 : decode cX10_back 5 = .ok (.ifCond .ne 10, 3) := by decide +kernel
theorem dX10_back_8 : decode cX10_back 8 = .ok (.aload_n 0, 1) := by decide +kernel
theorem dX10_back_9 : decode cX10_back 9 = .ok (.ldc 74, 2) := by decide +kernel
theorem dX10_back_11 : decode cX10_back 11 = .ok (.invokevirtual 75, 3) := by decide +kernel
theorem dX10_back_14 : decode cX10_back 14 = .ok (.ireturn, 1) := by decide +kernel
theorem dX10_back_15 : decode cX10_back 15 = .ok (.aload_n 0, 1) := by decide +kernel
theorem dX10_back_16 : decode cX10_back 16 = .ok (.iload_n 1, 1) := by decide +kernel
theorem dX10_back_17 : decode cX10_back 17 = .ok (.invokevirtual 247, 3) := by decide +kernel
theorem dX10_back_20 : decode cX10_back 20 = .ok (.ifCond .eq 11, 3) := by decide +kernel
theorem dX10_back_23 : decode cX10_back 23 = .ok (.aload_n 0, 1) := by decide +kernel
theorem dX10_back_24 : decode cX10_back 24 = .ok (.iload_n 1, 1) := by decide +kernel
theorem dX10_back_25 : decode cX10_back 25 = .ok (.invokevirtual 250, 3) := by decide +kernel
theorem dX10_back_28 : decode cX10_back 28 = .ok (.goto 9, 3) := by decide +kernel
theorem dX10_back_31 : decode cX10_back 31 = .ok (.aload_n 0, 1) := by decide +kernel
theorem dX10_back_32 : decode cX10_back 32 = .ok (.ldc 229, 2) := by decide +kernel
theorem dX10_back_34 : decode cX10_back 34 = .ok (.invokevirtual 75, 3) := by decide +kernel
theorem dX10_back_37 : decode cX10_back 37 = .ok (.ireturn, 1) := by decide +kernel
theorem dX10_breaksOne_0 : decode cX10_breaksOne 0 = .ok (.aload_n 0, 1) := by decide +kernel
theorem dX10_breaksOne_1 : decode cX10_breaksOne 1 = .ok (.iload_n 1, 1) := by decide +kernel
theorem dX10_breaksOne_2 : decode cX10_breaksOne 2 = .ok (.iconst 1, 1) := by decide +kernel
theorem dX10_breaksOne_3 : decode cX10_breaksOne 3 = .ok (.invokevirtual 194, 3) := by decide +kernel
theorem dX10_breaksOne_6 : decode cX10_breaksOne 6 = .ok (.iconst 1, 1) := by decide +kernel
theorem dX10_breaksOne_7 : decode cX10_breaksOne 7 = .ok (.invokestatic 191, 3) := by decide +kernel
theorem dX10_breaksOne_10 : decode cX10_breaksOne 10 = .ok (.istore_n 2, 1) := by decide +kernel
theorem dX10_breaksOne_11 : decode cX10_breaksOne 11 = .ok (.aload_n 0, 1) := by decide +kernel
theorem dX10_breaksOne_12 : decode cX10_breaksOne 12 = .ok (.getfield 9, 3) := by decide +kernel
theorem dX10_breaksOne_15 : decode cX10_breaksOne 15 = .ok (.iload_n 2, 1) := by decide +kernel
theorem dX10_breaksOne_16 : decode cX10_breaksOne 16 = .ok (.bipush 99, 2) := by decide +kernel
theorem dX10_breaksOne_18 : decode cX10_breaksOne 18 = .ok (.aload_n 0, 1) := by decide +kernel
theorem dX10_breaksOne_19 : decode cX10_breaksOne 19 = .ok (.getfield 9, 3) := by decide +kernel
theorem dX10_breaksOne_22 : decode cX10_breaksOne 22 = .ok (.iload_n 2, 1) := by decide +kernel
theorem dX10_breaksOne_23 : decode cX10_breaksOne 23 = .ok (.iaload, 1) := by decide +kernel
theorem dX10_breaksOne_24 : decode cX10_breaksOne 24 = .ok (.iconst 1, 1) := by decide +kernel
theorem dX10_breaksOne_25 : decode cX10_breaksOne 25 = .ok (.iadd, 1) := by decide +kernel
theorem dX10_breaksOne_26 : decode cX10_breaksOne 26 = .ok (.invokestatic 57, 3) := by decide +kernel
theorem dX10_breaksOne_29 : decode cX10_breaksOne 29 = .ok (.iastore, 1) := by decide +kernel
theorem dX10_breaksOne_30 : decode cX10_breaksOne 30 = .ok (.aload_n 0, 1) := by decide +kernel
theorem dX10_breaksOne_31 : decode cX10_breaksOne 31 = .ok (.iload_n 1, 1) := by decide +kernel
theorem dX10_breaksOne_32 : decode cX10_breaksOne 32 = .ok (.invokevirtual 244, 3) := by decide +kernel
theorem dX10_breaksOne_35 : decode cX10_breaksOne 35 = .ok (.return_, 1) := by decide +kernel
theorem dX10_day_0 : decode cX10_day 0 = .ok (.aload_n 0, 1) := by decide +kernel
theorem dX10_day_1 : decode cX10_day 1 = .ok (.getfield 9, 3) := by decide +kernel
theorem dX10_day_4 : decode cX10_day 4 = .ok (.iconst 0, 1) := by decide +kernel
theorem dX10_day_5 : decode cX10_day 5 = .ok (.dup2, 1) := by decide +kernel
theorem dX10_day_6 : decode cX10_day 6 = .ok (.iaload, 1) := by decide +kernel
theorem dX10_day_7 : decode cX10_day 7 = .ok (.iconst 1, 1) := by decide +kernel
theorem dX10_day_8 : decode cX10_day 8 = .ok (.iadd, 1) := by decide +kernel
theorem dX10_day_9 : decode cX10_day 9 = .ok (.iastore, 1) := by decide +kernel
theorem dX10_day_10 : decode cX10_day 10 = .ok (.iconst 0, 1) := by decide +kernel
theorem dX10_day_11 : decode cX10_day 11 = .ok (.istore_n 1, 1) := by decide +kernel
theorem dX10_day_12 : decode cX10_day 12 = .ok (.iload_n 1, 1) := by decide +kernel
theorem dX10_day_13 : decode cX10_day 13 = .ok (.aload_n 0, 1) := by decide +kernel
theorem dX10_day_14 : decode cX10_day 14 = .ok (.getfield 9, 3) := by decide +kernel
theorem dX10_day_17 : decode cX10_day 17 = .ok (.iconst 1, 1) := by decide +kernel
theorem dX10_day_18 : decode cX10_day 18 = .ok (.iaload, 1) := by decide +kernel
theorem dX10_day_19 : decode cX10_day 19 = .ok (.if_icmp .ge 57, 3) := by decide +kernel
theorem dX10_day_22 : decode cX10_day 22 = .ok (.aload_n 0, 1) := by decide +kernel
theorem dX10_day_23 : decode cX10_day 23 = .ok (.iload_n 1, 1) := by decide +kernel
theorem dX10_day_24 : decode cX10_day 24 = .ok (.iconst 3, 1) := by decide +kernel
theorem dX10_day_25 : decode cX10_day 25 = .ok (.invokevirtual 177, 3) := by decide +kernel
theorem dX10_day_28 : decode cX10_day 28 = .ok (.istore_n 2, 1) := by decide +kernel
theorem dX10_day_29 : decode cX10_day 29 = .ok (.aload_n 0, 1) := by decide +kernel
theorem dX10_day_30 : decode cX10_day 30 = .ok (.iload_n 2, 1) := by decide +kernel
theorem dX10_day_31 : decode cX10_day 31 = .ok (.invokevirtual 197, 3) := by decide +kernel
theorem dX10_day_34 : decode cX10_day 34 = .ok (.ifCond .eq 36, 3) := by decide +kernel
theorem dX10_day_37 : decode cX10_day 37 = .ok (.aload_n 0, 1) := by decide +kernel
theorem dX10_day_38 : decode cX10_day 38 = .ok (.getfield 9, 3) := by decide +kernel
theorem dX10_day_41 : decode cX10_day 41 = .ok (.iload_n 2, 1) := by decide +kernel
theorem dX10_day_42 : decode cX10_day 42 = .ok (.iload_n 1, 1) := by decide +kernel
theorem dX10_day_43 : decode cX10_day 43 = .ok (.invokestatic 162, 3) := by decide +kernel
theorem dX10_day_46 : decode cX10_day 46 = .ok (.sipush 999, 3) := by decide +kernel
theorem dX10_day_49 : decode cX10_day 49 = .ok (.aload_n 0, 1) := by decide +kernel
theorem dX10_day_50 : decode cX10_day 50 = .ok (.getfield 9, 3) := by decide +kernel
theorem dX10_day_53 : decode cX10_day 53 = .ok (.iload_n 2, 1) := by decide +kernel
theorem dX10_day_54 : decode cX10_day 54 = .ok (.iload_n 1, 1) := by decide +kernel
theorem dX10_day_55 : decode cX10_day 55 = .ok (.invokestatic 162, 3) := by decide +kernel
theorem dX10_day_58 : decode cX10_day 58 = .ok (.iaload, 1) := by decide +kernel
theorem dX10_day_59 : decode cX10_day 59 = .ok (.aload_n 0, 1) := by decide +kernel
theorem dX10_day_60 : decode cX10_day 60 = .ok (.iload_n 1, 1) := by decide +kernel
theorem dX10_day_61 : decode cX10_day 61 = .ok (.iconst 2, 1) := by decide +kernel
theorem dX10_day_62 : decode cX10_day 62 = .ok (.invokevirtual 177, 3) := by decide +kernel
theorem dX10_day_65 : decode cX10_day 65 = .ok (.iadd, 1) := by decide +kernel
theorem dX10_day_66 : decode cX10_day 66 = .ok (.invokestatic 57, 3) := by decide +kernel
theorem dX10_day_69 : decode cX10_day 69 = .ok (.iastore, 1) := by decide +kernel
theorem dX10_day_70 : decode cX10_day 70 = .ok (.iinc 1 1, 3) := by decide +kernel
theorem dX10_day_73 : decode cX10_day 73 = .ok (.goto (-61), 3) := by decide +kernel
theorem dX10_day_76 : decode cX10_day 76 = .ok (.iconst 0, 1) := by decide +kernel
theorem dX10_day_77 : decode cX10_day 77 = .ok (.istore_n 1, 1) := by decide +kernel
theorem dX10_day_78 : decode cX10_day 78 = .ok (.iload_n 1, 1) := by decide +kernel
theorem dX10_day_79 : decode cX10_day 79 = .ok (.aload_n 0, 1) := by decide +kernel
theorem dX10_day_80 : decode cX10_day 80 = .ok (.getfield 9, 3) := by decide +kernel
theorem dX10_day_83 : decode cX10_day 83 = .ok (.iconst 3, 1) := by decide +kernel
theorem dX10_day_84 : decode cX10_day 84 = .ok (.iaload, 1) := by decide +kernel
theorem dX10_day_85 : decode cX10_day 85 = .ok (.if_icmp .ge 49, 3) := by decide +kernel
theorem dX10_day_88 : decode cX10_day 88 = .ok (.aload_n 0, 1) := by decide +kernel
theorem dX10_day_89 : decode cX10_day 89 = .ok (.iload_n 1, 1) := by decide +kernel
theorem dX10_day_90 : decode cX10_day 90 = .ok (.iconst 4, 1) := by decide +kernel
theorem dX10_day_91 : decode cX10_day 91 = .ok (.invokevirtual 194, 3) := by decide +kernel
theorem dX10_day_94 : decode cX10_day 94 = .ok (.aload_n 0, 1) := by decide +kernel
theorem dX10_day_95 : decode cX10_day 95 = .ok (.getfield 9, 3) := by decide +kernel
theorem dX10_day_98 : decode cX10_day 98 = .ok (.iconst 0, 1) := by decide +kernel
theorem dX10_day_99 : decode cX10_day 99 = .ok (.iaload, 1) := by decide +kernel
theorem dX10_day_100 : decode cX10_day 100 = .ok (.if_icmp .eq 9, 3) := by decide +kernel
theorem dX10_day_103 : decode cX10_day 103 = .ok (.iinc 1 1, 3) := by decide +kernel
theorem dX10_day_106 : decode cX10_day 106 = .ok (.goto (-28), 3) := by decide +kernel
theorem dX10_day_109 : decode cX10_day 109 = .ok (.aload_n 0, 1) := by decide +kernel
theorem dX10_day_110 : decode cX10_day 110 = .ok (.iload_n 1, 1) := by decide +kernel
theorem dX10_day_111 : decode cX10_day 111 = .ok (.invokevirtual 247, 3) := by decide +kernel
theorem dX10_day_114 : decode cX10_day 114 = .ok (.ifCond .eq 12, 3) := by decide +kernel
theorem dX10_day_117 : decode cX10_day 117 = .ok (.aload_n 0, 1) := by decide +kernel
theorem dX10_day_118 : decode cX10_day 118 = .ok (.iload_n 1, 1) := by decide +kernel
theorem dX10_day_119 : decode cX10_day 119 = .ok (.invokevirtual 250, 3) := by decide +kernel
theorem dX10_day_122 : decode cX10_day 122 = .ok (.istore_n 2, 1) := by decide +kernel
theorem dX10_day_123 : decode cX10_day 123 = .ok (.goto (-45), 3) := by decide +kernel
theorem dX10_day_126 : decode cX10_day 126 = .ok (.aload_n 0, 1) := by decide +kernel
theorem dX10_day_127 : decode cX10_day 127 = .ok (.iload_n 1, 1) := by decide +kernel
theorem dX10_day_128 : decode cX10_day 128 = .ok (.invokevirtual 253, 3) := by decide +kernel
theorem dX10_day_131 : decode cX10_day 131 = .ok (.goto (-53), 3) := by decide +kernel
theorem dX10_day_134 : decode cX10_day 134 = .ok (.return_, 1) := by decide +kernel
theorem dX10_daysGo_0 : decode cX10_daysGo 0 = .ok (.iconst 0, 1) := by decide +kernel
theorem dX10_daysGo_1 : decode cX10_daysGo 1 = .ok (.istore_n 2, 1) := by decide +kernel
theorem dX10_daysGo_2 : decode cX10_daysGo 2 = .ok (.iload_n 2, 1) := by decide +kernel
theorem dX10_daysGo_3 : decode cX10_daysGo 3 = .ok (.iload_n 1, 1) := by decide +kernel
theorem dX10_daysGo_4 : decode cX10_daysGo 4 = .ok (.if_icmp .ge 13, 3) := by decide +kernel
theorem dX10_daysGo_7 : decode cX10_daysGo 7 = .ok (.aload_n 0, 1) := by decide +kernel
theorem dX10_daysGo_8 : decode cX10_daysGo 8 = .ok (.invokevirtual 256, 3) := by decide +kernel
theorem dX10_daysGo_11 : decode cX10_daysGo 11 = .ok (.iinc 2 1, 3) := by decide +kernel
theorem dX10_daysGo_14 : decode cX10_daysGo 14 = .ok (.goto (-12), 3) := by decide +kernel
theorem dX10_daysGo_17 : decode cX10_daysGo 17 = .ok (.return_, 1) := by decide +kernel
theorem dX10_days_0 : decode cX10_days 0 = .ok (.iload_n 1, 1) := by decide +kernel
theorem dX10_days_1 : decode cX10_days 1 = .ok (.iconst 1, 1) := by decide +kernel
theorem dX10_days_2 : decode cX10_days 2 = .ok (.bipush 60, 2) := by decide +kernel
theorem dX10_days_4 : decode cX10_days 4 = .ok (.invokestatic 70, 3) := by decide +kernel
theorem dX10_days_7 : decode cX10_days 7 = .ok (.ifCond .ne 10, 3) := by decide +kernel
theorem dX10_days_10 : decode cX10_days 10 = .ok (.aload_n 0, 1) := by decide +kernel
theorem dX10_days_11 : decode cX10_days 11 = .ok (.ldc 74, 2) := by decide +kernel
theorem dX10_days_13 : decode cX10_days 13 = .ok (.invokevirtual 75, 3) := by decide +kernel
theorem dX10_days_16 : decode cX10_days 16 = .ok (.ireturn, 1) := by decide +kernel
theorem dX10_days_17 : decode cX10_days 17 = .ok (.aload_n 0, 1) := by decide +kernel
theorem dX10_days_18 : decode cX10_days 18 = .ok (.getfield 9, 3) := by decide +kernel
theorem dX10_days_21 : decode cX10_days 21 = .ok (.iconst 0, 1) := by decide +kernel
theorem dX10_days_22 : decode cX10_days 22 = .ok (.iaload, 1) := by decide +kernel
theorem dX10_days_23 : decode cX10_days 23 = .ok (.iload_n 1, 1) := by decide +kernel
theorem dX10_days_24 : decode cX10_days 24 = .ok (.iadd, 1) := by decide +kernel
theorem dX10_days_25 : decode cX10_days 25 = .ok (.sipush 9999, 3) := by decide +kernel
theorem dX10_days_28 : decode cX10_days 28 = .ok (.if_icmp .le 10, 3) := by decide +kernel
theorem dX10_days_31 : decode cX10_days 31 = .ok (.aload_n 0, 1) := by decide +kernel
theorem dX10_days_32 : decode cX10_days 32 = .ok (.ldc 229, 2) := by decide +kernel
theorem dX10_days_34 : decode cX10_days 34 = .ok (.invokevirtual 75, 3) := by decide +kernel
theorem dX10_days_37 : decode cX10_days 37 = .ok (.ireturn, 1) := by decide +kernel
theorem dX10_days_38 : decode cX10_days 38 = .ok (.aload_n 0, 1) := by decide +kernel
theorem dX10_days_39 : decode cX10_days 39 = .ok (.iload_n 1, 1) := by decide +kernel
theorem dX10_days_40 : decode cX10_days 40 = .ok (.invokevirtual 259, 3) := by decide +kernel
theorem dX10_days_43 : decode cX10_days 43 = .ok (.aload_n 0, 1) := by decide +kernel
theorem dX10_days_44 : decode cX10_days 44 = .ok (.getfield 9, 3) := by decide +kernel
theorem dX10_days_47 : decode cX10_days 47 = .ok (.iconst 3, 1) := by decide +kernel
theorem dX10_days_48 : decode cX10_days 48 = .ok (.iaload, 1) := by decide +kernel
theorem dX10_days_49 : decode cX10_days 49 = .ok (.ireturn, 1) := by decide +kernel
theorem dX10_drawn_0 : decode cX10_drawn 0 = .ok (.aload_n 0, 1) := by decide +kernel
theorem dX10_drawn_1 : decode cX10_drawn 1 = .ok (.getfield 9, 3) := by decide +kernel
theorem dX10_drawn_4 : decode cX10_drawn 4 = .ok (.iconst 4, 1) := by decide +kernel
theorem dX10_drawn_5 : decode cX10_drawn 5 = .ok (.aload_n 0, 1) := by decide +kernel
theorem dX10_drawn_6 : decode cX10_drawn 6 = .ok (.getfield 9, 3) := by decide +kernel
theorem dX10_drawn_9 : decode cX10_drawn 9 = .ok (.iconst 4, 1) := by decide +kernel
theorem dX10_drawn_10 : decode cX10_drawn 10 = .ok (.iaload, 1) := by decide +kernel
theorem dX10_drawn_11 : decode cX10_drawn 11 = .ok (.ldc_w 262, 3) := by decide +kernel
theorem dX10_drawn_14 : decode cX10_drawn 14 = .ok (.imul, 1) := by decide +kernel
theorem dX10_drawn_15 : decode cX10_drawn 15 = .ok (.sipush 12345, 3) := by decide +kernel
theorem dX10_drawn_18 : decode cX10_drawn 18 = .ok (.iadd, 1) := by decide +kernel
theorem dX10_drawn_19 : decode cX10_drawn 19 = .ok (.iastore, 1) := by decide +kernel
theorem dX10_drawn_20 : decode cX10_drawn 20 = .ok (.aload_n 0, 1) := by decide +kernel
theorem dX10_drawn_21 : decode cX10_drawn 21 = .ok (.getfield 9, 3) := by decide +kernel
theorem dX10_drawn_24 : decode cX10_drawn 24 = .ok (.iconst 4, 1) := by decide +kernel
theorem dX10_drawn_25 : decode cX10_drawn 25 = .ok (.iaload, 1) := by decide +kernel
theorem dX10_drawn_26 : decode cX10_drawn 26 = .ok (.bipush 8, 2) := by decide +kernel
theorem dX10_drawn_28 : decode cX10_drawn 28 = .ok (.iushr, 1) := by decide +kernel
theorem dX10_drawn_29 : decode cX10_drawn 29 = .ok (.ireturn, 1) := by decide +kernel
theorem dX10_loose_0 : decode cX10_loose 0 = .ok (.iload_n 1, 1) := by decide +kernel
theorem dX10_loose_1 : decode cX10_loose 1 = .ok (.iconst 1, 1) := by decide +kernel
theorem dX10_loose_2 : decode cX10_loose 2 = .ok (.bipush 40, 2) := by decide +kernel
theorem dX10_loose_4 : decode cX10_loose 4 = .ok (.invokestatic 70, 3) := by decide +kernel
theorem dX10_loose_7 : decode cX10_loose 7 = .ok (.ifCond .ne 10, 3) := by decide +kernel
theorem dX10_loose_10 : decode cX10_loose 10 = .ok (.aload_n 0, 1) := by decide +kernel
theorem dX10_loose_11 : decode cX10_loose 11 = .ok (.ldc 74, 2) := by decide +kernel
theorem dX10_loose_13 : decode cX10_loose 13 = .ok (.invokevirtual 75, 3) := by decide +kernel
theorem dX10_loose_16 : decode cX10_loose 16 = .ok (.ireturn, 1) := by decide +kernel
theorem dX10_loose_17 : decode cX10_loose 17 = .ok (.aload_n 0, 1) := by decide +kernel
theorem dX10_loose_18 : decode cX10_loose 18 = .ok (.getfield 9, 3) := by decide +kernel
theorem dX10_loose_21 : decode cX10_loose 21 = .ok (.iconst 0, 1) := by decide +kernel
theorem dX10_loose_22 : decode cX10_loose 22 = .ok (.iaload, 1) := by decide +kernel
theorem dX10_loose_23 : decode cX10_loose 23 = .ok (.iload_n 1, 1) := by decide +kernel
theorem dX10_loose_24 : decode cX10_loose 24 = .ok (.iadd, 1) := by decide +kernel
theorem dX10_loose_25 : decode cX10_loose 25 = .ok (.sipush 9999, 3) := by decide +kernel
theorem dX10_loose_28 : decode cX10_loose 28 = .ok (.if_icmp .le 10, 3) := by decide +kernel
theorem dX10_loose_31 : decode cX10_loose 31 = .ok (.aload_n 0, 1) := by decide +kernel
theorem dX10_loose_32 : decode cX10_loose 32 = .ok (.ldc 229, 2) := by decide +kernel
theorem dX10_loose_34 : decode cX10_loose 34 = .ok (.invokevirtual 75, 3) := by decide +kernel
theorem dX10_loose_37 : decode cX10_loose 37 = .ok (.ireturn, 1) := by decide +kernel
theorem dX10_loose_38 : decode cX10_loose 38 = .ok (.iconst 0, 1) := by decide +kernel
theorem dX10_loose_39 : decode cX10_loose 39 = .ok (.istore_n 2, 1) := by decide +kernel
theorem dX10_loose_40 : decode cX10_loose 40 = .ok (.iload_n 2, 1) := by decide +kernel
theorem dX10_loose_41 : decode cX10_loose 41 = .ok (.iload_n 1, 1) := by decide +kernel
theorem dX10_loose_42 : decode cX10_loose 42 = .ok (.if_icmp .ge 51, 3) := by decide +kernel
theorem dX10_loose_45 : decode cX10_loose 45 = .ok (.aload_n 0, 1) := by decide +kernel
theorem dX10_loose_46 : decode cX10_loose 46 = .ok (.getfield 9, 3) := by decide +kernel
theorem dX10_loose_49 : decode cX10_loose 49 = .ok (.iconst 1, 1) := by decide +kernel
theorem dX10_loose_50 : decode cX10_loose 50 = .ok (.iaload, 1) := by decide +kernel
theorem dX10_loose_51 : decode cX10_loose 51 = .ok (.ifCond .le 32, 3) := by decide +kernel
theorem dX10_loose_54 : decode cX10_loose 54 = .ok (.aload_n 0, 1) := by decide +kernel
theorem dX10_loose_55 : decode cX10_loose 55 = .ok (.invokevirtual 263, 3) := by decide +kernel
theorem dX10_loose_58 : decode cX10_loose 58 = .ok (.aload_n 0, 1) := by decide +kernel
theorem dX10_loose_59 : decode cX10_loose 59 = .ok (.getfield 9, 3) := by decide +kernel
theorem dX10_loose_62 : decode cX10_loose 62 = .ok (.iconst 1, 1) := by decide +kernel
theorem dX10_loose_63 : decode cX10_loose 63 = .ok (.iaload, 1) := by decide +kernel
theorem dX10_loose_64 : decode cX10_loose 64 = .ok (.irem, 1) := by decide +kernel
theorem dX10_loose_65 : decode cX10_loose 65 = .ok (.istore_n 3, 1) := by decide +kernel
theorem dX10_loose_66 : decode cX10_loose 66 = .ok (.aload_n 0, 1) := by decide +kernel
theorem dX10_loose_67 : decode cX10_loose 67 = .ok (.getfield 9, 3) := by decide +kernel
theorem dX10_loose_70 : decode cX10_loose 70 = .ok (.iload_n 3, 1) := by decide +kernel
theorem dX10_loose_71 : decode cX10_loose 71 = .ok (.iconst 2, 1) := by decide +kernel
theorem dX10_loose_72 : decode cX10_loose 72 = .ok (.invokestatic 156, 3) := by decide +kernel
theorem dX10_loose_75 : decode cX10_loose 75 = .ok (.aload_n 0, 1) := by decide +kernel
theorem dX10_loose_76 : decode cX10_loose 76 = .ok (.invokevirtual 263, 3) := by decide +kernel
theorem dX10_loose_79 : decode cX10_loose 79 = .ok (.bipush 10, 2) := by decide +kernel
theorem dX10_loose_81 : decode cX10_loose 81 = .ok (.irem, 1) := by decide +kernel
theorem dX10_loose_82 : decode cX10_loose 82 = .ok (.iastore, 1) := by decide +kernel
theorem dX10_loose_83 : decode cX10_loose 83 = .ok (.aload_n 0, 1) := by decide +kernel
theorem dX10_loose_84 : decode cX10_loose 84 = .ok (.invokevirtual 256, 3) := by decide +kernel
theorem dX10_loose_87 : decode cX10_loose 87 = .ok (.iinc 2 1, 3) := by decide +kernel
theorem dX10_loose_90 : decode cX10_loose 90 = .ok (.goto (-50), 3) := by decide +kernel
theorem dX10_loose_93 : decode cX10_loose 93 = .ok (.aload_n 0, 1) := by decide +kernel
theorem dX10_loose_94 : decode cX10_loose 94 = .ok (.getfield 9, 3) := by decide +kernel
theorem dX10_loose_97 : decode cX10_loose 97 = .ok (.iconst 3, 1) := by decide +kernel
theorem dX10_loose_98 : decode cX10_loose 98 = .ok (.iaload, 1) := by decide +kernel
theorem dX10_loose_99 : decode cX10_loose 99 = .ok (.ireturn, 1) := by decide +kernel
theorem dX10_then_0 : decode cX10_then 0 = .ok (.iload_n 1, 1) := by decide +kernel
theorem dX10_then_1 : decode cX10_then 1 = .ok (.iconst 0, 1) := by decide +kernel
theorem dX10_then_2 : decode cX10_then 2 = .ok (.bipush 60, 2) := by decide +kernel
theorem dX10_then_4 : decode cX10_then 4 = .ok (.invokestatic 70, 3) := by decide +kernel
theorem dX10_then_7 : decode cX10_then 7 = .ok (.ifCond .eq 27, 3) := by decide +kernel
theorem dX10_then_10 : decode cX10_then 10 = .ok (.aload_n 0, 1) := by decide +kernel
theorem dX10_then_11 : decode cX10_then 11 = .ok (.iload_n 2, 1) := by decide +kernel
theorem dX10_then_12 : decode cX10_then 12 = .ok (.invokevirtual 197, 3) := by decide +kernel
theorem dX10_then_15 : decode cX10_then 15 = .ok (.ifCond .eq 19, 3) := by decide +kernel
theorem dX10_then_18 : decode cX10_then 18 = .ok (.iload_n 3, 1) := by decide +kernel
theorem dX10_then_19 : decode cX10_then 19 = .ok (.iconst (-1), 1) := by decide +kernel
theorem dX10_then_20 : decode cX10_then 20 = .ok (.aload_n 0, 1) := by decide +kernel
theorem dX10_then_21 : decode cX10_then 21 = .ok (.getfield 9, 3) := by decide +kernel
theorem dX10_then_24 : decode cX10_then 24 = .ok (.iconst 1, 1) := by decide +kernel
theorem dX10_then_25 : decode cX10_then 25 = .ok (.iaload, 1) := by decide +kernel
theorem dX10_then_26 : decode cX10_then 26 = .ok (.iconst 1, 1) := by decide +kernel
theorem dX10_then_27 : decode cX10_then 27 = .ok (.isub, 1) := by decide +kernel
theorem dX10_then_28 : decode cX10_then 28 = .ok (.invokestatic 70, 3) := by decide +kernel
theorem dX10_then_31 : decode cX10_then 31 = .ok (.ifCond .ne 10, 3) := by decide +kernel
theorem dX10_then_34 : decode cX10_then 34 = .ok (.aload_n 0, 1) := by decide +kernel
theorem dX10_then_35 : decode cX10_then 35 = .ok (.ldc 74, 2) := by decide +kernel
theorem dX10_then_37 : decode cX10_then 37 = .ok (.invokevirtual 75, 3) := by decide +kernel
theorem dX10_then_40 : decode cX10_then 40 = .ok (.ireturn, 1) := by decide +kernel
theorem dX10_then_41 : decode cX10_then 41 = .ok (.aload_n 0, 1) := by decide +kernel
theorem dX10_then_42 : decode cX10_then 42 = .ok (.getfield 9, 3) := by decide +kernel
theorem dX10_then_45 : decode cX10_then 45 = .ok (.aload_n 0, 1) := by decide +kernel
theorem dX10_then_46 : decode cX10_then 46 = .ok (.getfield 16, 3) := by decide +kernel
theorem dX10_then_49 : decode cX10_then 49 = .ok (.invokestatic 66, 3) := by decide +kernel
theorem dX10_then_52 : decode cX10_then 52 = .ok (.aload_n 0, 1) := by decide +kernel
theorem dX10_then_53 : decode cX10_then 53 = .ok (.iload_n 1, 1) := by decide +kernel
theorem dX10_then_54 : decode cX10_then 54 = .ok (.invokevirtual 259, 3) := by decide +kernel
theorem dX10_then_57 : decode cX10_then 57 = .ok (.aload_n 0, 1) := by decide +kernel
theorem dX10_then_58 : decode cX10_then 58 = .ok (.aload_n 0, 1) := by decide +kernel
theorem dX10_then_59 : decode cX10_then 59 = .ok (.getfield 9, 3) := by decide +kernel
theorem dX10_then_62 : decode cX10_then 62 = .ok (.iload_n 3, 1) := by decide +kernel
theorem dX10_then_63 : decode cX10_then 63 = .ok (.ifCond .ge 11, 3) := by decide +kernel
theorem dX10_then_66 : decode cX10_then 66 = .ok (.iload_n 2, 1) := by decide +kernel
theorem dX10_then_67 : decode cX10_then 67 = .ok (.iconst 1, 1) := by decide +kernel
theorem dX10_then_68 : decode cX10_then 68 = .ok (.invokestatic 191, 3) := by decide +kernel
theorem dX10_then_71 : decode cX10_then 71 = .ok (.goto 8, 3) := by decide +kernel
theorem dX10_then_74 : decode cX10_then 74 = .ok (.iload_n 2, 1) := by decide +kernel
theorem dX10_then_75 : decode cX10_then 75 = .ok (.iload_n 3, 1) := by decide +kernel
theorem dX10_then_76 : decode cX10_then 76 = .ok (.invokestatic 162, 3) := by decide +kernel
theorem dX10_then_79 : decode cX10_then 79 = .ok (.iaload, 1) := by decide +kernel
theorem dX10_then_80 : decode cX10_then 80 = .ok (.invokevirtual 266, 3) := by decide +kernel
theorem dX10_then_83 : decode cX10_then 83 = .ok (.ireturn, 1) := by decide +kernel
theorem dX10_breaks_0 : decode cX10_breaks 0 = .ok (.aload_n 0, 1) := by decide +kernel
theorem dX10_breaks_1 : decode cX10_breaks 1 = .ok (.iload_n 1, 1) := by decide +kernel
theorem dX10_breaks_2 : decode cX10_breaks 2 = .ok (.invokevirtual 197, 3) := by decide +kernel
theorem dX10_breaks_5 : decode cX10_breaks 5 = .ok (.ifCond .ne 10, 3) := by decide +kernel
theorem dX10_breaks_8 : decode cX10_breaks 8 = .ok (.aload_n 0, 1) := by decide +kernel
theorem dX10_breaks_9 : decode cX10_breaks 9 = .ok (.ldc 74, 2) := by decide +kernel
theorem dX10_breaks_11 : decode cX10_breaks 11 = .ok (.invokevirtual 75, 3) := by decide +kernel
theorem dX10_breaks_14 : decode cX10_breaks 14 = .ok (.ireturn, 1) := by decide +kernel
theorem dX10_breaks_15 : decode cX10_breaks 15 = .ok (.aload_n 0, 1) := by decide +kernel
theorem dX10_breaks_16 : decode cX10_breaks 16 = .ok (.getfield 9, 3) := by decide +kernel
theorem dX10_breaks_19 : decode cX10_breaks 19 = .ok (.aload_n 0, 1) := by decide +kernel
theorem dX10_breaks_20 : decode cX10_breaks 20 = .ok (.getfield 16, 3) := by decide +kernel
theorem dX10_breaks_23 : decode cX10_breaks 23 = .ok (.invokestatic 66, 3) := by decide +kernel
theorem dX10_breaks_26 : decode cX10_breaks 26 = .ok (.iload_n 1, 1) := by decide +kernel
theorem dX10_breaks_27 : decode cX10_breaks 27 = .ok (.iconst 1, 1) := by decide +kernel
theorem dX10_breaks_28 : decode cX10_breaks 28 = .ok (.invokestatic 191, 3) := by decide +kernel
theorem dX10_breaks_31 : decode cX10_breaks 31 = .ok (.istore_n 2, 1) := by decide +kernel
theorem dX10_breaks_32 : decode cX10_breaks 32 = .ok (.iconst 0, 1) := by decide +kernel
theorem dX10_breaks_33 : decode cX10_breaks 33 = .ok (.istore_n 3, 1) := by decide +kernel
theorem dX10_breaks_34 : decode cX10_breaks 34 = .ok (.iload_n 3, 1) := by decide +kernel
theorem dX10_breaks_35 : decode cX10_breaks 35 = .ok (.bipush 60, 2) := by decide +kernel
theorem dX10_breaks_37 : decode cX10_breaks 37 = .ok (.if_icmp .ge 28, 3) := by decide +kernel
theorem dX10_breaks_40 : decode cX10_breaks 40 = .ok (.aload_n 0, 1) := by decide +kernel
theorem dX10_breaks_41 : decode cX10_breaks 41 = .ok (.getfield 9, 3) := by decide +kernel
theorem dX10_breaks_44 : decode cX10_breaks 44 = .ok (.iload_n 2, 1) := by decide +kernel
theorem dX10_breaks_45 : decode cX10_breaks 45 = .ok (.iaload, 1) := by decide +kernel
theorem dX10_breaks_46 : decode cX10_breaks 46 = .ok (.aload_n 0, 1) := by decide +kernel
theorem dX10_breaks_47 : decode cX10_breaks 47 = .ok (.getfield 16, 3) := by decide +kernel
theorem dX10_breaks_50 : decode cX10_breaks 50 = .ok (.iload_n 2, 1) := by decide +kernel
theorem dX10_breaks_51 : decode cX10_breaks 51 = .ok (.iaload, 1) := by decide +kernel
theorem dX10_breaks_52 : decode cX10_breaks 52 = .ok (.if_icmp .ne 13, 3) := by decide +kernel
theorem dX10_breaks_55 : decode cX10_breaks 55 = .ok (.aload_n 0, 1) := by decide +kernel
theorem dX10_breaks_56 : decode cX10_breaks 56 = .ok (.invokevirtual 256, 3) := by decide +kernel
theorem dX10_breaks_59 : decode cX10_breaks 59 = .ok (.iinc 3 1, 3) := by decide +kernel
theorem dX10_breaks_62 : decode cX10_breaks 62 = .ok (.goto (-28), 3) := by decide +kernel
theorem dX10_breaks_65 : decode cX10_breaks 65 = .ok (.aload_n 0, 1) := by decide +kernel
theorem dX10_breaks_66 : decode cX10_breaks 66 = .ok (.getfield 9, 3) := by decide +kernel
theorem dX10_breaks_69 : decode cX10_breaks 69 = .ok (.iload_n 2, 1) := by decide +kernel
theorem dX10_breaks_70 : decode cX10_breaks 70 = .ok (.iaload, 1) := by decide +kernel
theorem dX10_breaks_71 : decode cX10_breaks 71 = .ok (.aload_n 0, 1) := by decide +kernel
theorem dX10_breaks_72 : decode cX10_breaks 72 = .ok (.getfield 16, 3) := by decide +kernel
theorem dX10_breaks_75 : decode cX10_breaks 75 = .ok (.iload_n 2, 1) := by decide +kernel
theorem dX10_breaks_76 : decode cX10_breaks 76 = .ok (.iaload, 1) := by decide +kernel
theorem dX10_breaks_77 : decode cX10_breaks 77 = .ok (.if_icmp .le 7, 3) := by decide +kernel
theorem dX10_breaks_80 : decode cX10_breaks 80 = .ok (.iconst 1, 1) := by decide +kernel
theorem dX10_breaks_81 : decode cX10_breaks 81 = .ok (.goto 4, 3) := by decide +kernel
theorem dX10_breaks_84 : decode cX10_breaks 84 = .ok (.iconst 0, 1) := by decide +kernel
theorem dX10_breaks_85 : decode cX10_breaks 85 = .ok (.istore 4, 2) := by decide +kernel
theorem dX10_breaks_87 : decode cX10_breaks 87 = .ok (.aload_n 0, 1) := by decide +kernel
theorem dX10_breaks_88 : decode cX10_breaks 88 = .ok (.getfield 16, 3) := by decide +kernel
theorem dX10_breaks_91 : decode cX10_breaks 91 = .ok (.aload_n 0, 1) := by decide +kernel
theorem dX10_breaks_92 : decode cX10_breaks 92 = .ok (.getfield 9, 3) := by decide +kernel
theorem dX10_breaks_95 : decode cX10_breaks 95 = .ok (.invokestatic 66, 3) := by decide +kernel
theorem dX10_breaks_98 : decode cX10_breaks 98 = .ok (.iload 4, 2) := by decide +kernel
theorem dX10_breaks_100 : decode cX10_breaks 100 = .ok (.ifCond .eq 7, 3) := by decide +kernel
theorem dX10_breaks_103 : decode cX10_breaks 103 = .ok (.iload_n 3, 1) := by decide +kernel
theorem dX10_breaks_104 : decode cX10_breaks 104 = .ok (.goto 9, 3) := by decide +kernel
theorem dX10_breaks_107 : decode cX10_breaks 107 = .ok (.aload_n 0, 1) := by decide +kernel
theorem dX10_breaks_108 : decode cX10_breaks 108 = .ok (.ldc 225, 2) := by decide +kernel
theorem dX10_breaks_110 : decode cX10_breaks 110 = .ok (.invokevirtual 75, 3) := by decide +kernel
theorem dX10_breaks_113 : decode cX10_breaks 113 = .ok (.ireturn, 1) := by decide +kernel
theorem dX10_bushels_0 : decode cX10_bushels 0 = .ok (.iconst 0, 1) := by decide +kernel
theorem dX10_bushels_1 : decode cX10_bushels 1 = .ok (.istore_n 1, 1) := by decide +kernel
theorem dX10_bushels_2 : decode cX10_bushels 2 = .ok (.iconst 0, 1) := by decide +kernel
theorem dX10_bushels_3 : decode cX10_bushels 3 = .ok (.istore_n 2, 1) := by decide +kernel
theorem dX10_bushels_4 : decode cX10_bushels 4 = .ok (.iload_n 2, 1) := by decide +kernel
theorem dX10_bushels_5 : decode cX10_bushels 5 = .ok (.iconst 5, 1) := by decide +kernel
theorem dX10_bushels_6 : decode cX10_bushels 6 = .ok (.if_icmp .ge 17, 3) := by decide +kernel
theorem dX10_bushels_9 : decode cX10_bushels 9 = .ok (.iload_n 1, 1) := by decide +kernel
theorem dX10_bushels_10 : decode cX10_bushels 10 = .ok (.iload_n 0, 1) := by decide +kernel
theorem dX10_bushels_11 : decode cX10_bushels 11 = .ok (.iload_n 2, 1) := by decide +kernel
theorem dX10_bushels_12 : decode cX10_bushels 12 = .ok (.invokestatic 204, 3) := by decide +kernel
theorem dX10_bushels_15 : decode cX10_bushels 15 = .ok (.iadd, 1) := by decide +kernel
theorem dX10_bushels_16 : decode cX10_bushels 16 = .ok (.istore_n 1, 1) := by decide +kernel
theorem dX10_bushels_17 : decode cX10_bushels 17 = .ok (.iinc 2 1, 3) := by decide +kernel
theorem dX10_bushels_20 : decode cX10_bushels 20 = .ok (.goto (-16), 3) := by decide +kernel
theorem dX10_bushels_23 : decode cX10_bushels 23 = .ok (.iload_n 1, 1) := by decide +kernel
theorem dX10_bushels_24 : decode cX10_bushels 24 = .ok (.ireturn, 1) := by decide +kernel
theorem dX10_mixOf_0 : decode cX10_mixOf 0 = .ok (.iconst 0, 1) := by decide +kernel
theorem dX10_mixOf_1 : decode cX10_mixOf 1 = .ok (.istore_n 1, 1) := by decide +kernel
theorem dX10_mixOf_2 : decode cX10_mixOf 2 = .ok (.iload_n 0, 1) := by decide +kernel
theorem dX10_mixOf_3 : decode cX10_mixOf 3 = .ok (.istore_n 2, 1) := by decide +kernel
theorem dX10_mixOf_4 : decode cX10_mixOf 4 = .ok (.iconst 1, 1) := by decide +kernel
theorem dX10_mixOf_5 : decode cX10_mixOf 5 = .ok (.istore_n 3, 1) := by decide +kernel
theorem dX10_mixOf_6 : decode cX10_mixOf 6 = .ok (.iload_n 3, 1) := by decide +kernel
theorem dX10_mixOf_7 : decode cX10_mixOf 7 = .ok (.ldc_w 269, 3) := by decide +kernel
theorem dX10_mixOf_10 : decode cX10_mixOf 10 = .ok (.if_icmp .ge 23, 3) := by decide +kernel
theorem dX10_mixOf_13 : decode cX10_mixOf 13 = .ok (.iload_n 1, 1) := by decide +kernel
theorem dX10_mixOf_14 : decode cX10_mixOf 14 = .ok (.iload_n 2, 1) := by decide +kernel
theorem dX10_mixOf_15 : decode cX10_mixOf 15 = .ok (.iconst 4, 1) := by decide +kernel
theorem dX10_mixOf_16 : decode cX10_mixOf 16 = .ok (.irem, 1) := by decide +kernel
theorem dX10_mixOf_17 : decode cX10_mixOf 17 = .ok (.iload_n 3, 1) := by decide +kernel
theorem dX10_mixOf_18 : decode cX10_mixOf 18 = .ok (.imul, 1) := by decide +kernel
theorem dX10_mixOf_19 : decode cX10_mixOf 19 = .ok (.iadd, 1) := by decide +kernel
theorem dX10_mixOf_20 : decode cX10_mixOf 20 = .ok (.istore_n 1, 1) := by decide +kernel
theorem dX10_mixOf_21 : decode cX10_mixOf 21 = .ok (.iload_n 2, 1) := by decide +kernel
theorem dX10_mixOf_22 : decode cX10_mixOf 22 = .ok (.iconst 4, 1) := by decide +kernel
theorem dX10_mixOf_23 : decode cX10_mixOf 23 = .ok (.idiv, 1) := by decide +kernel
theorem dX10_mixOf_24 : decode cX10_mixOf 24 = .ok (.istore_n 2, 1) := by decide +kernel
theorem dX10_mixOf_25 : decode cX10_mixOf 25 = .ok (.iload_n 3, 1) := by decide +kernel
theorem dX10_mixOf_26 : decode cX10_mixOf 26 = .ok (.bipush 10, 2) := by decide +kernel
theorem dX10_mixOf_28 : decode cX10_mixOf 28 = .ok (.imul, 1) := by decide +kernel
theorem dX10_mixOf_29 : decode cX10_mixOf 29 = .ok (.istore_n 3, 1) := by decide +kernel
theorem dX10_mixOf_30 : decode cX10_mixOf 30 = .ok (.goto (-24), 3) := by decide +kernel
theorem dX10_mixOf_33 : decode cX10_mixOf 33 = .ok (.iload_n 1, 1) := by decide +kernel
theorem dX10_mixOf_34 : decode cX10_mixOf 34 = .ok (.ireturn, 1) := by decide +kernel
theorem dX10_recipe_0 : decode cX10_recipe 0 = .ok (.aload_n 0, 1) := by decide +kernel
theorem dX10_recipe_1 : decode cX10_recipe 1 = .ok (.iload_n 1, 1) := by decide +kernel
theorem dX10_recipe_2 : decode cX10_recipe 2 = .ok (.invokevirtual 197, 3) := by decide +kernel
theorem dX10_recipe_5 : decode cX10_recipe 5 = .ok (.ifCond .eq 17, 3) := by decide +kernel
theorem dX10_recipe_8 : decode cX10_recipe 8 = .ok (.iload_n 2, 1) := by decide +kernel
theorem dX10_recipe_9 : decode cX10_recipe 9 = .ok (.invokestatic 216, 3) := by decide +kernel
theorem dX10_recipe_12 : decode cX10_recipe 12 = .ok (.ifCond .eq 10, 3) := by decide +kernel
theorem dX10_recipe_15 : decode cX10_recipe 15 = .ok (.iload_n 3, 1) := by decide +kernel
theorem dX10_recipe_16 : decode cX10_recipe 16 = .ok (.invokestatic 216, 3) := by decide +kernel
theorem dX10_recipe_19 : decode cX10_recipe 19 = .ok (.ifCond .ne 10, 3) := by decide +kernel
theorem dX10_recipe_22 : decode cX10_recipe 22 = .ok (.aload_n 0, 1) := by decide +kernel
theorem dX10_recipe_23 : decode cX10_recipe 23 = .ok (.ldc 74, 2) := by decide +kernel
theorem dX10_recipe_25 : decode cX10_recipe 25 = .ok (.invokevirtual 75, 3) := by decide +kernel
theorem dX10_recipe_28 : decode cX10_recipe 28 = .ok (.ireturn, 1) := by decide +kernel
theorem dX10_recipe_29 : decode cX10_recipe 29 = .ok (.iconst (-1), 1) := by decide +kernel
theorem dX10_recipe_30 : decode cX10_recipe 30 = .ok (.istore 4, 2) := by decide +kernel
theorem dX10_recipe_32 : decode cX10_recipe 32 = .ok (.iconst 1, 1) := by decide +kernel
theorem dX10_recipe_33 : decode cX10_recipe 33 = .ok (.istore 5, 2) := by decide +kernel
theorem dX10_recipe_35 : decode cX10_recipe 35 = .ok (.iload 5, 2) := by decide +kernel
theorem dX10_recipe_37 : decode cX10_recipe 37 = .ok (.iconst 1, 1) := by decide +kernel
theorem dX10_recipe_38 : decode cX10_recipe 38 = .ok (.iconst 2, 1) := by decide +kernel
theorem dX10_recipe_39 : decode cX10_recipe 39 = .ok (.aload_n 0, 1) := by decide +kernel
theorem dX10_recipe_40 : decode cX10_recipe 40 = .ok (.getfield 9, 3) := by decide +kernel
theorem dX10_recipe_43 : decode cX10_recipe 43 = .ok (.iconst 1, 1) := by decide +kernel
theorem dX10_recipe_44 : decode cX10_recipe 44 = .ok (.iaload, 1) := by decide +kernel
theorem dX10_recipe_45 : decode cX10_recipe 45 = .ok (.imul, 1) := by decide +kernel
theorem dX10_recipe_46 : decode cX10_recipe 46 = .ok (.ishl, 1) := by decide +kernel
theorem dX10_recipe_47 : decode cX10_recipe 47 = .ok (.if_icmp .ge 86, 3) := by decide +kernel
theorem dX10_recipe_50 : decode cX10_recipe 50 = .ok (.iload 5, 2) := by decide +kernel
theorem dX10_recipe_52 : decode cX10_recipe 52 = .ok (.invokestatic 270, 3) := by decide +kernel
theorem dX10_recipe_55 : decode cX10_recipe 55 = .ok (.istore 6, 2) := by decide +kernel
theorem dX10_recipe_57 : decode cX10_recipe 57 = .ok (.iload 4, 2) := by decide +kernel
theorem dX10_recipe_59 : decode cX10_recipe 59 = .ok (.ifCond .lt 16, 3) := by decide +kernel
theorem dX10_recipe_62 : decode cX10_recipe 62 = .ok (.iload 6, 2) := by decide +kernel
theorem dX10_recipe_64 : decode cX10_recipe 64 = .ok (.invokestatic 273, 3) := by decide +kernel
theorem dX10_recipe_67 : decode cX10_recipe 67 = .ok (.iload 4, 2) := by decide +kernel
theorem dX10_recipe_69 : decode cX10_recipe 69 = .ok (.invokestatic 273, 3) := by decide +kernel
theorem dX10_recipe_72 : decode cX10_recipe 72 = .ok (.if_icmp .ge 27, 3) := by decide +kernel
theorem dX10_recipe_75 : decode cX10_recipe 75 = .ok (.aload_n 0, 1) := by decide +kernel
theorem dX10_recipe_76 : decode cX10_recipe 76 = .ok (.iload_n 1, 1) := by decide +kernel
theorem dX10_recipe_77 : decode cX10_recipe 77 = .ok (.iload 6, 2) := by decide +kernel
theorem dX10_recipe_79 : decode cX10_recipe 79 = .ok (.invokevirtual 226, 3) := by decide +kernel
theorem dX10_recipe_82 : decode cX10_recipe 82 = .ok (.ifCond .eq 17, 3) := by decide +kernel
theorem dX10_recipe_85 : decode cX10_recipe 85 = .ok (.aload_n 0, 1) := by decide +kernel
theorem dX10_recipe_86 : decode cX10_recipe 86 = .ok (.iload 6, 2) := by decide +kernel
theorem dX10_recipe_88 : decode cX10_recipe 88 = .ok (.iload_n 3, 1) := by decide +kernel
theorem dX10_recipe_89 : decode cX10_recipe 89 = .ok (.invokevirtual 219, 3) := by decide +kernel
theorem dX10_recipe_92 : decode cX10_recipe 92 = .ok (.ifCond .ne 7, 3) := by decide +kernel
theorem dX10_recipe_95 : decode cX10_recipe 95 = .ok (.iconst 1, 1) := by decide +kernel
theorem dX10_recipe_96 : decode cX10_recipe 96 = .ok (.goto 4, 3) := by decide +kernel
theorem dX10_recipe_99 : decode cX10_recipe 99 = .ok (.iconst 0, 1) := by decide +kernel
theorem dX10_recipe_100 : decode cX10_recipe 100 = .ok (.istore 7, 2) := by decide +kernel
theorem dX10_recipe_102 : decode cX10_recipe 102 = .ok (.iload 7, 2) := by decide +kernel
theorem dX10_recipe_104 : decode cX10_recipe 104 = .ok (.ifCond .eq 19, 3) := by decide +kernel
theorem dX10_recipe_107 : decode cX10_recipe 107 = .ok (.aload_n 0, 1) := by decide +kernel
theorem dX10_recipe_108 : decode cX10_recipe 108 = .ok (.iload 6, 2) := by decide +kernel
theorem dX10_recipe_110 : decode cX10_recipe 110 = .ok (.iload_n 3, 1) := by decide +kernel
theorem dX10_recipe_111 : decode cX10_recipe 111 = .ok (.invokevirtual 222, 3) := by decide +kernel
theorem dX10_recipe_114 : decode cX10_recipe 114 = .ok (.iload_n 2, 1) := by decide +kernel
theorem dX10_recipe_115 : decode cX10_recipe 115 = .ok (.if_icmp .ne 8, 3) := by decide +kernel
theorem dX10_recipe_118 : decode cX10_recipe 118 = .ok (.iload 6, 2) := by decide +kernel
theorem dX10_recipe_120 : decode cX10_recipe 120 = .ok (.goto 5, 3) := by decide +kernel
theorem dX10_recipe_123 : decode cX10_recipe 123 = .ok (.iload 4, 2) := by decide +kernel
theorem dX10_recipe_125 : decode cX10_recipe 125 = .ok (.istore 4, 2) := by decide +kernel
theorem dX10_recipe_127 : decode cX10_recipe 127 = .ok (.iinc 5 1, 3) := by decide +kernel
theorem dX10_recipe_130 : decode cX10_recipe 130 = .ok (.goto (-95), 3) := by decide +kernel
theorem dX10_recipe_133 : decode cX10_recipe 133 = .ok (.iload 4, 2) := by decide +kernel
theorem dX10_recipe_135 : decode cX10_recipe 135 = .ok (.ifCond .ge 12, 3) := by decide +kernel
theorem dX10_recipe_138 : decode cX10_recipe 138 = .ok (.aload_n 0, 1) := by decide +kernel
theorem dX10_recipe_139 : decode cX10_recipe 139 = .ok (.ldc 225, 2) := by decide +kernel
theorem dX10_recipe_141 : decode cX10_recipe 141 = .ok (.invokevirtual 75, 3) := by decide +kernel
theorem dX10_recipe_144 : decode cX10_recipe 144 = .ok (.goto 5, 3) := by decide +kernel
theorem dX10_recipe_147 : decode cX10_recipe 147 = .ok (.iload 4, 2) := by decide +kernel
theorem dX10_recipe_149 : decode cX10_recipe 149 = .ok (.ireturn, 1) := by decide +kernel
theorem dX10_heatsOf_0 : decode cX10_heatsOf 0 = .ok (.iconst 0, 1) := by decide +kernel
theorem dX10_heatsOf_1 : decode cX10_heatsOf 1 = .ok (.istore_n 3, 1) := by decide +kernel
theorem dX10_heatsOf_2 : decode cX10_heatsOf 2 = .ok (.iconst 0, 1) := by decide +kernel
theorem dX10_heatsOf_3 : decode cX10_heatsOf 3 = .ok (.istore 4, 2) := by decide +kernel
theorem dX10_heatsOf_5 : decode cX10_heatsOf 5 = .ok (.iload 4, 2) := by decide +kernel
theorem dX10_heatsOf_7 : decode cX10_heatsOf 7 = .ok (.bipush 10, 2) := by decide +kernel
theorem dX10_heatsOf_9 : decode cX10_heatsOf 9 = .ok (.if_icmp .ge 41, 3) := by decide +kernel
theorem dX10_heatsOf_12 : decode cX10_heatsOf 12 = .ok (.iload_n 3, 1) := by decide +kernel
theorem dX10_heatsOf_13 : decode cX10_heatsOf 13 = .ok (.aload_n 0, 1) := by decide +kernel
theorem dX10_heatsOf_14 : decode cX10_heatsOf 14 = .ok (.iload_n 1, 1) := by decide +kernel
theorem dX10_heatsOf_15 : decode cX10_heatsOf 15 = .ok (.iload 4, 2) := by decide +kernel
theorem dX10_heatsOf_17 : decode cX10_heatsOf 17 = .ok (.invokevirtual 219, 3) := by decide +kernel
theorem dX10_heatsOf_20 : decode cX10_heatsOf 20 = .ok (.ifCond .ne 21, 3) := by decide +kernel
theorem dX10_heatsOf_23 : decode cX10_heatsOf 23 = .ok (.aload_n 0, 1) := by decide +kernel
theorem dX10_heatsOf_24 : decode cX10_heatsOf 24 = .ok (.iload_n 1, 1) := by decide +kernel
theorem dX10_heatsOf_25 : decode cX10_heatsOf 25 = .ok (.iload 4, 2) := by decide +kernel
theorem dX10_heatsOf_27 : decode cX10_heatsOf 27 = .ok (.invokevirtual 222, 3) := by decide +kernel
theorem dX10_heatsOf_30 : decode cX10_heatsOf 30 = .ok (.iload_n 2, 1) := by decide +kernel
theorem dX10_heatsOf_31 : decode cX10_heatsOf 31 = .ok (.if_icmp .ne 10, 3) := by decide +kernel
theorem dX10_heatsOf_34 : decode cX10_heatsOf 34 = .ok (.iconst 1, 1) := by decide +kernel
theorem dX10_heatsOf_35 : decode cX10_heatsOf 35 = .ok (.iload 4, 2) := by decide +kernel
theorem dX10_heatsOf_37 : decode cX10_heatsOf 37 = .ok (.ishl, 1) := by decide +kernel
theorem dX10_heatsOf_38 : decode cX10_heatsOf 38 = .ok (.goto 4, 3) := by decide +kernel
theorem dX10_heatsOf_41 : decode cX10_heatsOf 41 = .ok (.iconst 0, 1) := by decide +kernel
theorem dX10_heatsOf_42 : decode cX10_heatsOf 42 = .ok (.ior, 1) := by decide +kernel
theorem dX10_heatsOf_43 : decode cX10_heatsOf 43 = .ok (.istore_n 3, 1) := by decide +kernel
theorem dX10_heatsOf_44 : decode cX10_heatsOf 44 = .ok (.iinc 4 1, 3) := by decide +kernel
theorem dX10_heatsOf_47 : decode cX10_heatsOf 47 = .ok (.goto (-42), 3) := by decide +kernel
theorem dX10_heatsOf_50 : decode cX10_heatsOf 50 = .ok (.iload_n 3, 1) := by decide +kernel
theorem dX10_heatsOf_51 : decode cX10_heatsOf 51 = .ok (.ireturn, 1) := by decide +kernel
theorem dX10_heats_0 : decode cX10_heats 0 = .ok (.aload_n 0, 1) := by decide +kernel
theorem dX10_heats_1 : decode cX10_heats 1 = .ok (.iload_n 1, 1) := by decide +kernel
theorem dX10_heats_2 : decode cX10_heats 2 = .ok (.invokevirtual 213, 3) := by decide +kernel
theorem dX10_heats_5 : decode cX10_heats 5 = .ok (.ifCond .eq 19, 3) := by decide +kernel
theorem dX10_heats_8 : decode cX10_heats 8 = .ok (.iload_n 2, 1) := by decide +kernel
theorem dX10_heats_9 : decode cX10_heats 9 = .ok (.invokestatic 216, 3) := by decide +kernel
theorem dX10_heats_12 : decode cX10_heats 12 = .ok (.ifCond .eq 12, 3) := by decide +kernel
theorem dX10_heats_15 : decode cX10_heats 15 = .ok (.aload_n 0, 1) := by decide +kernel
theorem dX10_heats_16 : decode cX10_heats 16 = .ok (.iload_n 1, 1) := by decide +kernel
theorem dX10_heats_17 : decode cX10_heats 17 = .ok (.iload_n 2, 1) := by decide +kernel
theorem dX10_heats_18 : decode cX10_heats 18 = .ok (.invokevirtual 276, 3) := by decide +kernel
theorem dX10_heats_21 : decode cX10_heats 21 = .ok (.goto 9, 3) := by decide +kernel
theorem dX10_heats_24 : decode cX10_heats 24 = .ok (.aload_n 0, 1) := by decide +kernel
theorem dX10_heats_25 : decode cX10_heats 25 = .ok (.ldc 74, 2) := by decide +kernel
theorem dX10_heats_27 : decode cX10_heats 27 = .ok (.invokevirtual 75, 3) := by decide +kernel
theorem dX10_heats_30 : decode cX10_heats 30 = .ok (.ireturn, 1) := by decide +kernel
theorem dX10_burnt_0 : decode cX10_burnt 0 = .ok (.iload_n 1, 1) := by decide +kernel
theorem dX10_burnt_1 : decode cX10_burnt 1 = .ok (.invokestatic 279, 3) := by decide +kernel
theorem dX10_burnt_4 : decode cX10_burnt 4 = .ok (.ifCond .ne 10, 3) := by decide +kernel
theorem dX10_burnt_7 : decode cX10_burnt 7 = .ok (.aload_n 0, 1) := by decide +kernel
theorem dX10_burnt_8 : decode cX10_burnt 8 = .ok (.ldc 74, 2) := by decide +kernel
theorem dX10_burnt_10 : decode cX10_burnt 10 = .ok (.invokevirtual 75, 3) := by decide +kernel
theorem dX10_burnt_13 : decode cX10_burnt 13 = .ok (.ireturn, 1) := by decide +kernel
theorem dX10_burnt_14 : decode cX10_burnt 14 = .ok (.aload_n 0, 1) := by decide +kernel
theorem dX10_burnt_15 : decode cX10_burnt 15 = .ok (.getfield 44, 3) := by decide +kernel
theorem dX10_burnt_18 : decode cX10_burnt 18 = .ok (.iload_n 1, 1) := by decide +kernel
theorem dX10_burnt_19 : decode cX10_burnt 19 = .ok (.iaload, 1) := by decide +kernel
theorem dX10_burnt_20 : decode cX10_burnt 20 = .ok (.ifCond .eq 14, 3) := by decide +kernel
theorem dX10_burnt_23 : decode cX10_burnt 23 = .ok (.aload_n 0, 1) := by decide +kernel
theorem dX10_burnt_24 : decode cX10_burnt 24 = .ok (.getfield 47, 3) := by decide +kernel
theorem dX10_burnt_27 : decode cX10_burnt 27 = .ok (.iload_n 1, 1) := by decide +kernel
theorem dX10_burnt_28 : decode cX10_burnt 28 = .ok (.iaload, 1) := by decide +kernel
theorem dX10_burnt_29 : decode cX10_burnt 29 = .ok (.bipush 10, 2) := by decide +kernel
theorem dX10_burnt_31 : decode cX10_burnt 31 = .ok (.if_icmp .le 10, 3) := by decide +kernel
theorem dX10_burnt_34 : decode cX10_burnt 34 = .ok (.aload_n 0, 1) := by decide +kernel
theorem dX10_burnt_35 : decode cX10_burnt 35 = .ok (.ldc 225, 2) := by decide +kernel
theorem dX10_burnt_37 : decode cX10_burnt 37 = .ok (.invokevirtual 75, 3) := by decide +kernel
theorem dX10_burnt_40 : decode cX10_burnt 40 = .ok (.ireturn, 1) := by decide +kernel
theorem dX10_burnt_41 : decode cX10_burnt 41 = .ok (.iconst 0, 1) := by decide +kernel
theorem dX10_burnt_42 : decode cX10_burnt 42 = .ok (.istore_n 2, 1) := by decide +kernel
theorem dX10_burnt_43 : decode cX10_burnt 43 = .ok (.iconst 0, 1) := by decide +kernel
theorem dX10_burnt_44 : decode cX10_burnt 44 = .ok (.istore_n 3, 1) := by decide +kernel
theorem dX10_burnt_45 : decode cX10_burnt 45 = .ok (.iload_n 3, 1) := by decide +kernel
theorem dX10_burnt_46 : decode cX10_burnt 46 = .ok (.aload_n 0, 1) := by decide +kernel
theorem dX10_burnt_47 : decode cX10_burnt 47 = .ok (.getfield 9, 3) := by decide +kernel
theorem dX10_burnt_50 : decode cX10_burnt 50 = .ok (.iconst 1, 1) := by decide +kernel
theorem dX10_burnt_51 : decode cX10_burnt 51 = .ok (.iaload, 1) := by decide +kernel
theorem dX10_burnt_52 : decode cX10_burnt 52 = .ok (.if_icmp .ge 93, 3) := by decide +kernel
theorem dX10_burnt_55 : decode cX10_burnt 55 = .ok (.iconst 1, 1) := by decide +kernel
theorem dX10_burnt_56 : decode cX10_burnt 56 = .ok (.istore 4, 2) := by decide +kernel
theorem dX10_burnt_58 : decode cX10_burnt 58 = .ok (.iconst 0, 1) := by decide +kernel
theorem dX10_burnt_59 : decode cX10_burnt 59 = .ok (.istore 5, 2) := by decide +kernel
theorem dX10_burnt_61 : decode cX10_burnt 61 = .ok (.iload 5, 2) := by decide +kernel
theorem dX10_burnt_63 : decode cX10_burnt 63 = .ok (.aload_n 0, 1) := by decide +kernel
theorem dX10_burnt_64 : decode cX10_burnt 64 = .ok (.getfield 47, 3) := by decide +kernel
theorem dX10_burnt_67 : decode cX10_burnt 67 = .ok (.iload_n 1, 1) := by decide +kernel
theorem dX10_burnt_68 : decode cX10_burnt 68 = .ok (.iaload, 1) := by decide +kernel
theorem dX10_burnt_69 : decode cX10_burnt 69 = .ok (.if_icmp .ge 55, 3) := by decide +kernel
theorem dX10_burnt_72 : decode cX10_burnt 72 = .ok (.aload_n 0, 1) := by decide +kernel
theorem dX10_burnt_73 : decode cX10_burnt 73 = .ok (.getfield 50, 3) := by decide +kernel
theorem dX10_burnt_76 : decode cX10_burnt 76 = .ok (.bipush 40, 2) := by decide +kernel
theorem dX10_burnt_78 : decode cX10_burnt 78 = .ok (.iload_n 1, 1) := by decide +kernel
theorem dX10_burnt_79 : decode cX10_burnt 79 = .ok (.imul, 1) := by decide +kernel
theorem dX10_burnt_80 : decode cX10_burnt 80 = .ok (.iload 5, 2) := by decide +kernel
theorem dX10_burnt_82 : decode cX10_burnt 82 = .ok (.iadd, 1) := by decide +kernel
theorem dX10_burnt_83 : decode cX10_burnt 83 = .ok (.iaload, 1) := by decide +kernel
theorem dX10_burnt_84 : decode cX10_burnt 84 = .ok (.istore 6, 2) := by decide +kernel
theorem dX10_burnt_86 : decode cX10_burnt 86 = .ok (.iload 4, 2) := by decide +kernel
theorem dX10_burnt_88 : decode cX10_burnt 88 = .ok (.ifCond .eq 27, 3) := by decide +kernel
theorem dX10_burnt_91 : decode cX10_burnt 91 = .ok (.iload 6, 2) := by decide +kernel
theorem dX10_burnt_93 : decode cX10_burnt 93 = .ok (.ifCond .lt 18, 3) := by decide +kernel
theorem dX10_burnt_96 : decode cX10_burnt 96 = .ok (.iload 6, 2) := by decide +kernel
theorem dX10_burnt_98 : decode cX10_burnt 98 = .ok (.aload_n 0, 1) := by decide +kernel
theorem dX10_burnt_99 : decode cX10_burnt 99 = .ok (.iload_n 3, 1) := by decide +kernel
theorem dX10_burnt_100 : decode cX10_burnt 100 = .ok (.iload 5, 2) := by decide +kernel
theorem dX10_burnt_102 : decode cX10_burnt 102 = .ok (.invokevirtual 207, 3) := by decide +kernel
theorem dX10_burnt_105 : decode cX10_burnt 105 = .ok (.invokestatic 210, 3) := by decide +kernel
theorem dX10_burnt_108 : decode cX10_burnt 108 = .ok (.if_icmp .ne 7, 3) := by decide +kernel
theorem dX10_burnt_111 : decode cX10_burnt 111 = .ok (.iconst 1, 1) := by decide +kernel
theorem dX10_burnt_112 : decode cX10_burnt 112 = .ok (.goto 4, 3) := by decide +kernel
theorem dX10_burnt_115 : decode cX10_burnt 115 = .ok (.iconst 0, 1) := by decide +kernel
theorem dX10_burnt_116 : decode cX10_burnt 116 = .ok (.istore 4, 2) := by decide +kernel
theorem dX10_burnt_118 : decode cX10_burnt 118 = .ok (.iinc 5 1, 3) := by decide +kernel
theorem dX10_burnt_121 : decode cX10_burnt 121 = .ok (.goto (-60), 3) := by decide +kernel
theorem dX10_burnt_124 : decode cX10_burnt 124 = .ok (.iload_n 2, 1) := by decide +kernel
theorem dX10_burnt_125 : decode cX10_burnt 125 = .ok (.iload 4, 2) := by decide +kernel
theorem dX10_burnt_127 : decode cX10_burnt 127 = .ok (.ifCond .eq 9, 3) := by decide +kernel
theorem dX10_burnt_130 : decode cX10_burnt 130 = .ok (.iconst 1, 1) := by decide +kernel
theorem dX10_burnt_131 : decode cX10_burnt 131 = .ok (.iload_n 3, 1) := by decide +kernel
theorem dX10_burnt_132 : decode cX10_burnt 132 = .ok (.ishl, 1) := by decide +kernel
theorem dX10_burnt_133 : decode cX10_burnt 133 = .ok (.goto 4, 3) := by decide +kernel
theorem dX10_burnt_136 : decode cX10_burnt 136 = .ok (.iconst 0, 1) := by decide +kernel
theorem dX10_burnt_137 : decode cX10_burnt 137 = .ok (.ior, 1) := by decide +kernel
theorem dX10_burnt_138 : decode cX10_burnt 138 = .ok (.istore_n 2, 1) := by decide +kernel
theorem dX10_burnt_139 : decode cX10_burnt 139 = .ok (.iinc 3 1, 3) := by decide +kernel
theorem dX10_burnt_142 : decode cX10_burnt 142 = .ok (.goto (-97), 3) := by decide +kernel
theorem dX10_burnt_145 : decode cX10_burnt 145 = .ok (.iload_n 2, 1) := by decide +kernel
theorem dX10_burnt_146 : decode cX10_burnt 146 = .ok (.ireturn, 1) := by decide +kernel
theorem dX10_has_0 : decode cX10_has 0 = .ok (.iconst 0, 1) := by decide +kernel
theorem dX10_has_1 : decode cX10_has 1 = .ok (.istore 4, 2) := by decide +kernel
theorem dX10_has_3 : decode cX10_has 3 = .ok (.iconst 0, 1) := by decide +kernel
theorem dX10_has_4 : decode cX10_has 4 = .ok (.istore 5, 2) := by decide +kernel
theorem dX10_has_6 : decode cX10_has 6 = .ok (.iload 5, 2) := by decide +kernel
theorem dX10_has_8 : decode cX10_has 8 = .ok (.aload_n 0, 1) := by decide +kernel
theorem dX10_has_9 : decode cX10_has 9 = .ok (.getfield 9, 3) := by decide +kernel
theorem dX10_has_12 : decode cX10_has 12 = .ok (.iconst 3, 1) := by decide +kernel
theorem dX10_has_13 : decode cX10_has 13 = .ok (.iaload, 1) := by decide +kernel
theorem dX10_has_14 : decode cX10_has 14 = .ok (.if_icmp .ge 58, 3) := by decide +kernel
theorem dX10_has_17 : decode cX10_has 17 = .ok (.iload 4, 2) := by decide +kernel
theorem dX10_has_19 : decode cX10_has 19 = .ok (.aload_n 0, 1) := by decide +kernel
theorem dX10_has_20 : decode cX10_has 20 = .ok (.iload 5, 2) := by decide +kernel
theorem dX10_has_22 : decode cX10_has 22 = .ok (.iconst 1, 1) := by decide +kernel
theorem dX10_has_23 : decode cX10_has 23 = .ok (.invokevirtual 194, 3) := by decide +kernel
theorem dX10_has_26 : decode cX10_has 26 = .ok (.iload_n 1, 1) := by decide +kernel
theorem dX10_has_27 : decode cX10_has 27 = .ok (.if_icmp .ne 35, 3) := by decide +kernel
theorem dX10_has_30 : decode cX10_has 30 = .ok (.aload_n 0, 1) := by decide +kernel
theorem dX10_has_31 : decode cX10_has 31 = .ok (.iload 5, 2) := by decide +kernel
theorem dX10_has_33 : decode cX10_has 33 = .ok (.iconst 0, 1) := by decide +kernel
theorem dX10_has_34 : decode cX10_has 34 = .ok (.invokevirtual 194, 3) := by decide +kernel
theorem dX10_has_37 : decode cX10_has 37 = .ok (.iload_n 2, 1) := by decide +kernel
theorem dX10_has_38 : decode cX10_has 38 = .ok (.if_icmp .ne 24, 3) := by decide +kernel
theorem dX10_has_41 : decode cX10_has 41 = .ok (.aload_n 0, 1) := by decide +kernel
theorem dX10_has_42 : decode cX10_has 42 = .ok (.iload 5, 2) := by decide +kernel
theorem dX10_has_44 : decode cX10_has 44 = .ok (.iconst 2, 1) := by decide +kernel
theorem dX10_has_45 : decode cX10_has 45 = .ok (.invokevirtual 194, 3) := by decide +kernel
theorem dX10_has_48 : decode cX10_has 48 = .ok (.iload_n 3, 1) := by decide +kernel
theorem dX10_has_49 : decode cX10_has 49 = .ok (.if_icmp .ne 13, 3) := by decide +kernel
theorem dX10_has_52 : decode cX10_has 52 = .ok (.aload_n 0, 1) := by decide +kernel
theorem dX10_has_53 : decode cX10_has 53 = .ok (.iload 5, 2) := by decide +kernel
theorem dX10_has_55 : decode cX10_has 55 = .ok (.iconst 3, 1) := by decide +kernel
theorem dX10_has_56 : decode cX10_has 56 = .ok (.invokevirtual 194, 3) := by decide +kernel
theorem dX10_has_59 : decode cX10_has 59 = .ok (.goto 4, 3) := by decide +kernel
theorem dX10_has_62 : decode cX10_has 62 = .ok (.iconst 0, 1) := by decide +kernel
theorem dX10_has_63 : decode cX10_has 63 = .ok (.iadd, 1) := by decide +kernel
theorem dX10_has_64 : decode cX10_has 64 = .ok (.istore 4, 2) := by decide +kernel
theorem dX10_has_66 : decode cX10_has 66 = .ok (.iinc 5 1, 3) := by decide +kernel
theorem dX10_has_69 : decode cX10_has 69 = .ok (.goto (-63), 3) := by decide +kernel
theorem dX10_has_72 : decode cX10_has 72 = .ok (.iload 4, 2) := by decide +kernel
theorem dX10_has_74 : decode cX10_has 74 = .ok (.ireturn, 1) := by decide +kernel
theorem dX10_round_0 : decode cX10_round 0 = .ok (.iconst 0, 1) := by decide +kernel
theorem dX10_round_1 : decode cX10_round 1 = .ok (.istore_n 1, 1) := by decide +kernel
theorem dX10_round_2 : decode cX10_round 2 = .ok (.iconst 0, 1) := by decide +kernel
theorem dX10_round_3 : decode cX10_round 3 = .ok (.istore_n 2, 1) := by decide +kernel
theorem dX10_round_4 : decode cX10_round 4 = .ok (.iload_n 2, 1) := by decide +kernel
theorem dX10_round_5 : decode cX10_round 5 = .ok (.aload_n 0, 1) := by decide +kernel
theorem dX10_round_6 : decode cX10_round 6 = .ok (.getfield 9, 3) := by decide +kernel
theorem dX10_round_9 : decode cX10_round 9 = .ok (.iconst 2, 1) := by decide +kernel
theorem dX10_round_10 : decode cX10_round 10 = .ok (.iaload, 1) := by decide +kernel
theorem dX10_round_11 : decode cX10_round 11 = .ok (.if_icmp .ge 71, 3) := by decide +kernel
theorem dX10_round_14 : decode cX10_round 14 = .ok (.iload_n 2, 1) := by decide +kernel
theorem dX10_round_15 : decode cX10_round 15 = .ok (.iconst 1, 1) := by decide +kernel
theorem dX10_round_16 : decode cX10_round 16 = .ok (.iadd, 1) := by decide +kernel
theorem dX10_round_17 : decode cX10_round 17 = .ok (.istore_n 3, 1) := by decide +kernel
theorem dX10_round_18 : decode cX10_round 18 = .ok (.iload_n 3, 1) := by decide +kernel
theorem dX10_round_19 : decode cX10_round 19 = .ok (.aload_n 0, 1) := by decide +kernel
theorem dX10_round_20 : decode cX10_round 20 = .ok (.getfield 9, 3) := by decide +kernel
theorem dX10_round_23 : decode cX10_round 23 = .ok (.iconst 2, 1) := by decide +kernel
theorem dX10_round_24 : decode cX10_round 24 = .ok (.iaload, 1) := by decide +kernel
theorem dX10_round_25 : decode cX10_round 25 = .ok (.if_icmp .ge 51, 3) := by decide +kernel
theorem dX10_round_28 : decode cX10_round 28 = .ok (.iconst 0, 1) := by decide +kernel
theorem dX10_round_29 : decode cX10_round 29 = .ok (.istore 4, 2) := by decide +kernel
theorem dX10_round_31 : decode cX10_round 31 = .ok (.iload 4, 2) := by decide +kernel
theorem dX10_round_33 : decode cX10_round 33 = .ok (.aload_n 0, 1) := by decide +kernel
theorem dX10_round_34 : decode cX10_round 34 = .ok (.getfield 9, 3) := by decide +kernel
theorem dX10_round_37 : decode cX10_round 37 = .ok (.iconst 1, 1) := by decide +kernel
theorem dX10_round_38 : decode cX10_round 38 = .ok (.iaload, 1) := by decide +kernel
theorem dX10_round_39 : decode cX10_round 39 = .ok (.if_icmp .ge 31, 3) := by decide +kernel
theorem dX10_round_42 : decode cX10_round 42 = .ok (.iload_n 1, 1) := by decide +kernel
theorem dX10_round_43 : decode cX10_round 43 = .ok (.aload_n 0, 1) := by decide +kernel
theorem dX10_round_44 : decode cX10_round 44 = .ok (.iload_n 2, 1) := by decide +kernel
theorem dX10_round_45 : decode cX10_round 45 = .ok (.iload_n 3, 1) := by decide +kernel
theorem dX10_round_46 : decode cX10_round 46 = .ok (.iload 4, 2) := by decide +kernel
theorem dX10_round_48 : decode cX10_round 48 = .ok (.invokevirtual 282, 3) := by decide +kernel
theorem dX10_round_51 : decode cX10_round 51 = .ok (.aload_n 0, 1) := by decide +kernel
theorem dX10_round_52 : decode cX10_round 52 = .ok (.iload_n 3, 1) := by decide +kernel
theorem dX10_round_53 : decode cX10_round 53 = .ok (.iload_n 2, 1) := by decide +kernel
theorem dX10_round_54 : decode cX10_round 54 = .ok (.iload 4, 2) := by decide +kernel
theorem dX10_round_56 : decode cX10_round 56 = .ok (.invokevirtual 282, 3) := by decide +kernel
theorem dX10_round_59 : decode cX10_round 59 = .ok (.invokestatic 57, 3) := by decide +kernel
theorem dX10_round_62 : decode cX10_round 62 = .ok (.iadd, 1) := by decide +kernel
theorem dX10_round_63 : decode cX10_round 63 = .ok (.istore_n 1, 1) := by decide +kernel
theorem dX10_round_64 : decode cX10_round 64 = .ok (.iinc 4 1, 3) := by decide +kernel
theorem dX10_round_67 : decode cX10_round 67 = .ok (.goto (-36), 3) := by decide +kernel
theorem dX10_round_70 : decode cX10_round 70 = .ok (.iinc 3 1, 3) := by decide +kernel
theorem dX10_round_73 : decode cX10_round 73 = .ok (.goto (-55), 3) := by decide +kernel
theorem dX10_round_76 : decode cX10_round 76 = .ok (.iinc 2 1, 3) := by decide +kernel
theorem dX10_round_79 : decode cX10_round 79 = .ok (.goto (-75), 3) := by decide +kernel
theorem dX10_round_82 : decode cX10_round 82 = .ok (.iload_n 1, 1) := by decide +kernel
theorem dX10_round_83 : decode cX10_round 83 = .ok (.ireturn, 1) := by decide +kernel
theorem dX10_brokenAll_0 : decode cX10_brokenAll 0 = .ok (.iconst 0, 1) := by decide +kernel
theorem dX10_brokenAll_1 : decode cX10_brokenAll 1 = .ok (.istore_n 1, 1) := by decide +kernel
theorem dX10_brokenAll_2 : decode cX10_brokenAll 2 = .ok (.iconst 0, 1) := by decide +kernel
theorem dX10_brokenAll_3 : decode cX10_brokenAll 3 = .ok (.istore_n 2, 1) := by decide +kernel
theorem dX10_brokenAll_4 : decode cX10_brokenAll 4 = .ok (.iload_n 2, 1) := by decide +kernel
theorem dX10_brokenAll_5 : decode cX10_brokenAll 5 = .ok (.aload_n 0, 1) := by decide +kernel
theorem dX10_brokenAll_6 : decode cX10_brokenAll 6 = .ok (.getfield 9, 3) := by decide +kernel
theorem dX10_brokenAll_9 : decode cX10_brokenAll 9 = .ok (.iconst 2, 1) := by decide +kernel
theorem dX10_brokenAll_10 : decode cX10_brokenAll 10 = .ok (.iaload, 1) := by decide +kernel
theorem dX10_brokenAll_11 : decode cX10_brokenAll 11 = .ok (.if_icmp .ge 22, 3) := by decide +kernel
theorem dX10_brokenAll_14 : decode cX10_brokenAll 14 = .ok (.iload_n 1, 1) := by decide +kernel
theorem dX10_brokenAll_15 : decode cX10_brokenAll 15 = .ok (.aload_n 0, 1) := by decide +kernel
theorem dX10_brokenAll_16 : decode cX10_brokenAll 16 = .ok (.getfield 9, 3) := by decide +kernel
theorem dX10_brokenAll_19 : decode cX10_brokenAll 19 = .ok (.iload_n 2, 1) := by decide +kernel
theorem dX10_brokenAll_20 : decode cX10_brokenAll 20 = .ok (.iconst 1, 1) := by decide +kernel
theorem dX10_brokenAll_21 : decode cX10_brokenAll 21 = .ok (.invokestatic 191, 3) := by decide +kernel
theorem dX10_brokenAll_24 : decode cX10_brokenAll 24 = .ok (.iaload, 1) := by decide +kernel
theorem dX10_brokenAll_25 : decode cX10_brokenAll 25 = .ok (.iadd, 1) := by decide +kernel
theorem dX10_brokenAll_26 : decode cX10_brokenAll 26 = .ok (.istore_n 1, 1) := by decide +kernel
theorem dX10_brokenAll_27 : decode cX10_brokenAll 27 = .ok (.iinc 2 1, 3) := by decide +kernel
theorem dX10_brokenAll_30 : decode cX10_brokenAll 30 = .ok (.goto (-26), 3) := by decide +kernel
theorem dX10_brokenAll_33 : decode cX10_brokenAll 33 = .ok (.iload_n 1, 1) := by decide +kernel
theorem dX10_brokenAll_34 : decode cX10_brokenAll 34 = .ok (.ireturn, 1) := by decide +kernel
theorem dX10_brokenIfLent_0 : decode cX10_brokenIfLent 0 = .ok (.aload_n 0, 1) := by decide +kernel
theorem dX10_brokenIfLent_1 : decode cX10_brokenIfLent 1 = .ok (.getfield 9, 3) := by decide +kernel
theorem dX10_brokenIfLent_4 : decode cX10_brokenIfLent 4 = .ok (.aload_n 0, 1) := by decide +kernel
theorem dX10_brokenIfLent_5 : decode cX10_brokenIfLent 5 = .ok (.getfield 16, 3) := by decide +kernel
theorem dX10_brokenIfLent_8 : decode cX10_brokenIfLent 8 = .ok (.invokestatic 66, 3) := by decide +kernel
theorem dX10_brokenIfLent_11 : decode cX10_brokenIfLent 11 = .ok (.aload_n 0, 1) := by decide +kernel
theorem dX10_brokenIfLent_12 : decode cX10_brokenIfLent 12 = .ok (.iload_n 1, 1) := by decide +kernel
theorem dX10_brokenIfLent_13 : decode cX10_brokenIfLent 13 = .ok (.iload_n 2, 1) := by decide +kernel
theorem dX10_brokenIfLent_14 : decode cX10_brokenIfLent 14 = .ok (.iload_n 3, 1) := by decide +kernel
theorem dX10_brokenIfLent_15 : decode cX10_brokenIfLent 15 = .ok (.iload 4, 2) := by decide +kernel
theorem dX10_brokenIfLent_17 : decode cX10_brokenIfLent 17 = .ok (.iload 5, 2) := by decide +kernel
theorem dX10_brokenIfLent_19 : decode cX10_brokenIfLent 19 = .ok (.invokevirtual 237, 3) := by decide +kernel
theorem dX10_brokenIfLent_22 : decode cX10_brokenIfLent 22 = .ok (.istore 6, 2) := by decide +kernel
theorem dX10_brokenIfLent_24 : decode cX10_brokenIfLent 24 = .ok (.aload_n 0, 1) := by decide +kernel
theorem dX10_brokenIfLent_25 : decode cX10_brokenIfLent 25 = .ok (.bipush 60, 2) := by decide +kernel
theorem dX10_brokenIfLent_27 : decode cX10_brokenIfLent 27 = .ok (.invokevirtual 259, 3) := by decide +kernel
theorem dX10_brokenIfLent_30 : decode cX10_brokenIfLent 30 = .ok (.aload_n 0, 1) := by decide +kernel
theorem dX10_brokenIfLent_31 : decode cX10_brokenIfLent 31 = .ok (.iload 6, 2) := by decide +kernel
theorem dX10_brokenIfLent_33 : decode cX10_brokenIfLent 33 = .ok (.ifCond .ge 8, 3) := by decide +kernel
theorem dX10_brokenIfLent_36 : decode cX10_brokenIfLent 36 = .ok (.iload 6, 2) := by decide +kernel
theorem dX10_brokenIfLent_38 : decode cX10_brokenIfLent 38 = .ok (.goto 7, 3) := by decide +kernel
theorem dX10_brokenIfLent_41 : decode cX10_brokenIfLent 41 = .ok (.aload_n 0, 1) := by decide +kernel
theorem dX10_brokenIfLent_42 : decode cX10_brokenIfLent 42 = .ok (.invokevirtual 285, 3) := by decide +kernel
theorem dX10_brokenIfLent_45 : decode cX10_brokenIfLent 45 = .ok (.invokevirtual 266, 3) := by decide +kernel
theorem dX10_brokenIfLent_48 : decode cX10_brokenIfLent 48 = .ok (.ireturn, 1) := by decide +kernel
theorem dX10_lender_0 : decode cX10_lender 0 = .ok (.aload_n 0, 1) := by decide +kernel
theorem dX10_lender_1 : decode cX10_lender 1 = .ok (.iload_n 1, 1) := by decide +kernel
theorem dX10_lender_2 : decode cX10_lender 2 = .ok (.invokevirtual 197, 3) := by decide +kernel
theorem dX10_lender_5 : decode cX10_lender 5 = .ok (.ifCond .eq 32, 3) := by decide +kernel
theorem dX10_lender_8 : decode cX10_lender 8 = .ok (.aload_n 0, 1) := by decide +kernel
theorem dX10_lender_9 : decode cX10_lender 9 = .ok (.iload_n 2, 1) := by decide +kernel
theorem dX10_lender_10 : decode cX10_lender 10 = .ok (.invokevirtual 171, 3) := by decide +kernel
theorem dX10_lender_13 : decode cX10_lender 13 = .ok (.ifCond .eq 24, 3) := by decide +kernel
theorem dX10_lender_16 : decode cX10_lender 16 = .ok (.iload_n 3, 1) := by decide +kernel
theorem dX10_lender_17 : decode cX10_lender 17 = .ok (.iconst 1, 1) := by decide +kernel
theorem dX10_lender_18 : decode cX10_lender 18 = .ok (.bipush 99, 2) := by decide +kernel
theorem dX10_lender_20 : decode cX10_lender 20 = .ok (.invokestatic 70, 3) := by decide +kernel
theorem dX10_lender_23 : decode cX10_lender 23 = .ok (.ifCond .eq 14, 3) := by decide +kernel
theorem dX10_lender_26 : decode cX10_lender 26 = .ok (.iload 4, 2) := by decide +kernel
theorem dX10_lender_28 : decode cX10_lender 28 = .ok (.iconst 1, 1) := by decide +kernel
theorem dX10_lender_29 : decode cX10_lender 29 = .ok (.bipush 20, 2) := by decide +kernel
theorem dX10_lender_31 : decode cX10_lender 31 = .ok (.invokestatic 70, 3) := by decide +kernel
theorem dX10_lender_34 : decode cX10_lender 34 = .ok (.ifCond .ne 10, 3) := by decide +kernel
theorem dX10_lender_37 : decode cX10_lender 37 = .ok (.aload_n 0, 1) := by decide +kernel
theorem dX10_lender_38 : decode cX10_lender 38 = .ok (.ldc 74, 2) := by decide +kernel
theorem dX10_lender_40 : decode cX10_lender 40 = .ok (.invokevirtual 75, 3) := by decide +kernel
theorem dX10_lender_43 : decode cX10_lender 43 = .ok (.ireturn, 1) := by decide +kernel
theorem dX10_lender_44 : decode cX10_lender 44 = .ok (.aload_n 0, 1) := by decide +kernel
theorem dX10_lender_45 : decode cX10_lender 45 = .ok (.getfield 9, 3) := by decide +kernel
theorem dX10_lender_48 : decode cX10_lender 48 = .ok (.iconst 3, 1) := by decide +kernel
theorem dX10_lender_49 : decode cX10_lender 49 = .ok (.iaload, 1) := by decide +kernel
theorem dX10_lender_50 : decode cX10_lender 50 = .ok (.bipush 10, 2) := by decide +kernel
theorem dX10_lender_52 : decode cX10_lender 52 = .ok (.if_icmp .ne 10, 3) := by decide +kernel
theorem dX10_lender_55 : decode cX10_lender 55 = .ok (.aload_n 0, 1) := by decide +kernel
theorem dX10_lender_56 : decode cX10_lender 56 = .ok (.ldc 79, 2) := by decide +kernel
theorem dX10_lender_58 : decode cX10_lender 58 = .ok (.invokevirtual 75, 3) := by decide +kernel
theorem dX10_lender_61 : decode cX10_lender 61 = .ok (.ireturn, 1) := by decide +kernel
theorem dX10_lender_62 : decode cX10_lender 62 = .ok (.iconst (-1), 1) := by decide +kernel
theorem dX10_lender_63 : decode cX10_lender 63 = .ok (.istore 5, 2) := by decide +kernel
theorem dX10_lender_65 : decode cX10_lender 65 = .ok (.sipush 397, 3) := by decide +kernel
theorem dX10_lender_68 : decode cX10_lender 68 = .ok (.istore 6, 2) := by decide +kernel
theorem dX10_lender_70 : decode cX10_lender 70 = .ok (.iconst 0, 1) := by decide +kernel
theorem dX10_lender_71 : decode cX10_lender 71 = .ok (.istore 7, 2) := by decide +kernel
theorem dX10_lender_73 : decode cX10_lender 73 = .ok (.iload 7, 2) := by decide +kernel
theorem dX10_lender_75 : decode cX10_lender 75 = .ok (.aload_n 0, 1) := by decide +kernel
theorem dX10_lender_76 : decode cX10_lender 76 = .ok (.getfield 9, 3) := by decide +kernel
theorem dX10_lender_79 : decode cX10_lender 79 = .ok (.iconst 2, 1) := by decide +kernel
theorem dX10_lender_80 : decode cX10_lender 80 = .ok (.iaload, 1) := by decide +kernel
theorem dX10_lender_81 : decode cX10_lender 81 = .ok (.if_icmp .ge 70, 3) := by decide +kernel
theorem dX10_lender_84 : decode cX10_lender 84 = .ok (.iload 7, 2) := by decide +kernel
theorem dX10_lender_86 : decode cX10_lender 86 = .ok (.iload_n 1, 1) := by decide +kernel
theorem dX10_lender_87 : decode cX10_lender 87 = .ok (.if_icmp .eq 29, 3) := by decide +kernel
theorem dX10_lender_90 : decode cX10_lender 90 = .ok (.aload_n 0, 1) := by decide +kernel
theorem dX10_lender_91 : decode cX10_lender 91 = .ok (.iload 7, 2) := by decide +kernel
theorem dX10_lender_93 : decode cX10_lender 93 = .ok (.iload_n 1, 1) := by decide +kernel
theorem dX10_lender_94 : decode cX10_lender 94 = .ok (.iload_n 2, 1) := by decide +kernel
theorem dX10_lender_95 : decode cX10_lender 95 = .ok (.iload_n 3, 1) := by decide +kernel
theorem dX10_lender_96 : decode cX10_lender 96 = .ok (.invokevirtual 233, 3) := by decide +kernel
theorem dX10_lender_99 : decode cX10_lender 99 = .ok (.ifCond .eq 17, 3) := by decide +kernel
theorem dX10_lender_102 : decode cX10_lender 102 = .ok (.aload_n 0, 1) := by decide +kernel
theorem dX10_lender_103 : decode cX10_lender 103 = .ok (.iload 7, 2) := by decide +kernel
theorem dX10_lender_105 : decode cX10_lender 105 = .ok (.iload_n 1, 1) := by decide +kernel
theorem dX10_lender_106 : decode cX10_lender 106 = .ok (.iload_n 2, 1) := by decide +kernel
theorem dX10_lender_107 : decode cX10_lender 107 = .ok (.iload_n 3, 1) := by decide +kernel
theorem dX10_lender_108 : decode cX10_lender 108 = .ok (.iload 4, 2) := by decide +kernel
theorem dX10_lender_110 : decode cX10_lender 110 = .ok (.invokevirtual 288, 3) := by decide +kernel
theorem dX10_lender_113 : decode cX10_lender 113 = .ok (.goto 5, 3) := by decide +kernel
theorem dX10_lender_116 : decode cX10_lender 116 = .ok (.iload 6, 2) := by decide +kernel
theorem dX10_lender_118 : decode cX10_lender 118 = .ok (.istore 8, 2) := by decide +kernel
theorem dX10_lender_120 : decode cX10_lender 120 = .ok (.iload 8, 2) := by decide +kernel
theorem dX10_lender_122 : decode cX10_lender 122 = .ok (.iload 6, 2) := by decide +kernel
theorem dX10_lender_124 : decode cX10_lender 124 = .ok (.if_icmp .ge 8, 3) := by decide +kernel
theorem dX10_lender_127 : decode cX10_lender 127 = .ok (.iload 7, 2) := by decide +kernel
theorem dX10_lender_129 : decode cX10_lender 129 = .ok (.goto 5, 3) := by decide +kernel
theorem dX10_lender_132 : decode cX10_lender 132 = .ok (.iload 5, 2) := by decide +kernel
theorem dX10_lender_134 : decode cX10_lender 134 = .ok (.istore 5, 2) := by decide +kernel
theorem dX10_lender_136 : decode cX10_lender 136 = .ok (.iload 6, 2) := by decide +kernel
theorem dX10_lender_138 : decode cX10_lender 138 = .ok (.iload 8, 2) := by decide +kernel
theorem dX10_lender_140 : decode cX10_lender 140 = .ok (.invokestatic 57, 3) := by decide +kernel
theorem dX10_lender_143 : decode cX10_lender 143 = .ok (.istore 6, 2) := by decide +kernel
theorem dX10_lender_145 : decode cX10_lender 145 = .ok (.iinc 7 1, 3) := by decide +kernel
theorem dX10_lender_148 : decode cX10_lender 148 = .ok (.goto (-75), 3) := by decide +kernel
theorem dX10_lender_151 : decode cX10_lender 151 = .ok (.iload 5, 2) := by decide +kernel
theorem dX10_lender_153 : decode cX10_lender 153 = .ok (.ifCond .ge 12, 3) := by decide +kernel
theorem dX10_lender_156 : decode cX10_lender 156 = .ok (.aload_n 0, 1) := by decide +kernel
theorem dX10_lender_157 : decode cX10_lender 157 = .ok (.ldc 225, 2) := by decide +kernel
theorem dX10_lender_159 : decode cX10_lender 159 = .ok (.invokevirtual 75, 3) := by decide +kernel
theorem dX10_lender_162 : decode cX10_lender 162 = .ok (.goto 5, 3) := by decide +kernel
theorem dX10_lender_165 : decode cX10_lender 165 = .ok (.iload 5, 2) := by decide +kernel
theorem dX10_lender_167 : decode cX10_lender 167 = .ok (.ireturn, 1) := by decide +kernel
theorem dX10_odds_0 : decode cX10_odds 0 = .ok (.aload_n 0, 1) := by decide +kernel
theorem dX10_odds_1 : decode cX10_odds 1 = .ok (.iload_n 1, 1) := by decide +kernel
theorem dX10_odds_2 : decode cX10_odds 2 = .ok (.invokevirtual 213, 3) := by decide +kernel
theorem dX10_odds_5 : decode cX10_odds 5 = .ok (.ifCond .eq 19, 3) := by decide +kernel
theorem dX10_odds_8 : decode cX10_odds 8 = .ok (.iload_n 2, 1) := by decide +kernel
theorem dX10_odds_9 : decode cX10_odds 9 = .ok (.invokestatic 216, 3) := by decide +kernel
theorem dX10_odds_12 : decode cX10_odds 12 = .ok (.ifCond .eq 12, 3) := by decide +kernel
theorem dX10_odds_15 : decode cX10_odds 15 = .ok (.iload_n 3, 1) := by decide +kernel
theorem dX10_odds_16 : decode cX10_odds 16 = .ok (.iconst 0, 1) := by decide +kernel
theorem dX10_odds_17 : decode cX10_odds 17 = .ok (.iconst 1, 1) := by decide +kernel
theorem dX10_odds_18 : decode cX10_odds 18 = .ok (.invokestatic 70, 3) := by decide +kernel
theorem dX10_odds_21 : decode cX10_odds 21 = .ok (.ifCond .ne 10, 3) := by decide +kernel
theorem dX10_odds_24 : decode cX10_odds 24 = .ok (.aload_n 0, 1) := by decide +kernel
theorem dX10_odds_25 : decode cX10_odds 25 = .ok (.ldc 74, 2) := by decide +kernel
theorem dX10_odds_27 : decode cX10_odds 27 = .ok (.invokevirtual 75, 3) := by decide +kernel
theorem dX10_odds_30 : decode cX10_odds 30 = .ok (.ireturn, 1) := by decide +kernel
theorem dX10_odds_31 : decode cX10_odds 31 = .ok (.iconst 0, 1) := by decide +kernel
theorem dX10_odds_32 : decode cX10_odds 32 = .ok (.istore 4, 2) := by decide +kernel
theorem dX10_odds_34 : decode cX10_odds 34 = .ok (.aload_n 0, 1) := by decide +kernel
theorem dX10_odds_35 : decode cX10_odds 35 = .ok (.iload_n 1, 1) := by decide +kernel
theorem dX10_odds_36 : decode cX10_odds 36 = .ok (.iload_n 2, 1) := by decide +kernel
theorem dX10_odds_37 : decode cX10_odds 37 = .ok (.invokevirtual 276, 3) := by decide +kernel
theorem dX10_odds_40 : decode cX10_odds 40 = .ok (.istore 5, 2) := by decide +kernel
theorem dX10_odds_42 : decode cX10_odds 42 = .ok (.iload 5, 2) := by decide +kernel
theorem dX10_odds_44 : decode cX10_odds 44 = .ok (.ifCond .eq 18, 3) := by decide +kernel
theorem dX10_odds_47 : decode cX10_odds 47 = .ok (.iinc 4 1, 3) := by decide +kernel
theorem dX10_odds_50 : decode cX10_odds 50 = .ok (.iload 5, 2) := by decide +kernel
theorem dX10_odds_52 : decode cX10_odds 52 = .ok (.iload 5, 2) := by decide +kernel
theorem dX10_odds_54 : decode cX10_odds 54 = .ok (.iconst 1, 1) := by decide +kernel
theorem dX10_odds_55 : decode cX10_odds 55 = .ok (.isub, 1) := by decide +kernel
theorem dX10_odds_56 : decode cX10_odds 56 = .ok (.iand, 1) := by decide +kernel
theorem dX10_odds_57 : decode cX10_odds 57 = .ok (.istore 5, 2) := by decide +kernel
theorem dX10_odds_59 : decode cX10_odds 59 = .ok (.goto (-17), 3) := by decide +kernel
theorem dX10_odds_62 : decode cX10_odds 62 = .ok (.bipush 10, 2) := by decide +kernel
theorem dX10_odds_64 : decode cX10_odds 64 = .ok (.istore 5, 2) := by decide +kernel
theorem dX10_odds_66 : decode cX10_odds 66 = .ok (.iload 4, 2) := by decide +kernel
theorem dX10_odds_68 : decode cX10_odds 68 = .ok (.istore 6, 2) := by decide +kernel
theorem dX10_odds_70 : decode cX10_odds 70 = .ok (.iload 6, 2) := by decide +kernel
theorem dX10_odds_72 : decode cX10_odds 72 = .ok (.ifCond .eq 21, 3) := by decide +kernel
theorem dX10_odds_75 : decode cX10_odds 75 = .ok (.iload 5, 2) := by decide +kernel
theorem dX10_odds_77 : decode cX10_odds 77 = .ok (.iload 6, 2) := by decide +kernel
theorem dX10_odds_79 : decode cX10_odds 79 = .ok (.irem, 1) := by decide +kernel
theorem dX10_odds_80 : decode cX10_odds 80 = .ok (.istore 7, 2) := by decide +kernel
theorem dX10_odds_82 : decode cX10_odds 82 = .ok (.iload 6, 2) := by decide +kernel
theorem dX10_odds_84 : decode cX10_odds 84 = .ok (.istore 5, 2) := by decide +kernel
theorem dX10_odds_86 : decode cX10_odds 86 = .ok (.iload 7, 2) := by decide +kernel
theorem dX10_odds_88 : decode cX10_odds 88 = .ok (.istore 6, 2) := by decide +kernel
theorem dX10_odds_90 : decode cX10_odds 90 = .ok (.goto (-20), 3) := by decide +kernel
theorem dX10_odds_93 : decode cX10_odds 93 = .ok (.iload_n 3, 1) := by decide +kernel
theorem dX10_odds_94 : decode cX10_odds 94 = .ok (.ifCond .ne 8, 3) := by decide +kernel
theorem dX10_odds_97 : decode cX10_odds 97 = .ok (.iload 4, 2) := by decide +kernel
theorem dX10_odds_99 : decode cX10_odds 99 = .ok (.goto 5, 3) := by decide +kernel
theorem dX10_odds_102 : decode cX10_odds 102 = .ok (.bipush 10, 2) := by decide +kernel
theorem dX10_odds_104 : decode cX10_odds 104 = .ok (.iload 5, 2) := by decide +kernel
theorem dX10_odds_106 : decode cX10_odds 106 = .ok (.idiv, 1) := by decide +kernel
theorem dX10_odds_107 : decode cX10_odds 107 = .ok (.ireturn, 1) := by decide +kernel
theorem dX10_seed_0 : decode cX10_seed 0 = .ok (.aload_n 0, 1) := by decide +kernel
theorem dX10_seed_1 : decode cX10_seed 1 = .ok (.iconst 4, 1) := by decide +kernel
theorem dX10_seed_2 : decode cX10_seed 2 = .ok (.iload_n 1, 1) := by decide +kernel
theorem dX10_seed_3 : decode cX10_seed 3 = .ok (.invokevirtual 180, 3) := by decide +kernel
theorem dX10_seed_6 : decode cX10_seed 6 = .ok (.ireturn, 1) := by decide +kernel
theorem dX10_ran_0 : decode cX10_ran 0 = .ok (.aload_n 0, 1) := by decide +kernel
theorem dX10_ran_1 : decode cX10_ran 1 = .ok (.getfield 291, 3) := by decide +kernel
theorem dX10_ran_4 : decode cX10_ran 4 = .ok (.bipush 40, 2) := by decide +kernel
theorem dX10_ran_6 : decode cX10_ran 6 = .ok (.if_icmp .ge 23, 3) := by decide +kernel
theorem dX10_ran_9 : decode cX10_ran 9 = .ok (.aload_n 0, 1) := by decide +kernel
theorem dX10_ran_10 : decode cX10_ran 10 = .ok (.getfield 41, 3) := by decide +kernel
theorem dX10_ran_13 : decode cX10_ran 13 = .ok (.aload_n 0, 1) := by decide +kernel
theorem dX10_ran_14 : decode cX10_ran 14 = .ok (.getfield 291, 3) := by decide +kernel
theorem dX10_ran_17 : decode cX10_ran 17 = .ok (.iload_n 1, 1) := by decide +kernel
theorem dX10_ran_18 : decode cX10_ran 18 = .ok (.iastore, 1) := by decide +kernel
theorem dX10_ran_19 : decode cX10_ran 19 = .ok (.aload_n 0, 1) := by decide +kernel
theorem dX10_ran_20 : decode cX10_ran 20 = .ok (.dup, 1) := by decide +kernel
theorem dX10_ran_21 : decode cX10_ran 21 = .ok (.getfield 291, 3) := by decide +kernel
theorem dX10_ran_24 : decode cX10_ran 24 = .ok (.iconst 1, 1) := by decide +kernel
theorem dX10_ran_25 : decode cX10_ran 25 = .ok (.iadd, 1) := by decide +kernel
theorem dX10_ran_26 : decode cX10_ran 26 = .ok (.putfield 291, 3) := by decide +kernel
theorem dX10_ran_29 : decode cX10_ran 29 = .ok (.return_, 1) := by decide +kernel
theorem dX10_burnsOf_0 : decode cX10_burnsOf 0 = .ok (.aload_n 0, 1) := by decide +kernel
theorem dX10_burnsOf_1 : decode cX10_burnsOf 1 = .ok (.getfield 294, 3) := by decide +kernel
theorem dX10_burnsOf_4 : decode cX10_burnsOf 4 = .ok (.iconst 1, 1) := by decide +kernel
theorem dX10_burnsOf_5 : decode cX10_burnsOf 5 = .ok (.invokestatic 186, 3) := by decide +kernel
theorem dX10_burnsOf_8 : decode cX10_burnsOf 8 = .ok (.istore_n 2, 1) := by decide +kernel
theorem dX10_burnsOf_9 : decode cX10_burnsOf 9 = .ok (.iload_n 2, 1) := by decide +kernel
theorem dX10_burnsOf_10 : decode cX10_burnsOf 10 = .ok (.ifCond .eq 9, 3) := by decide +kernel
theorem dX10_burnsOf_13 : decode cX10_burnsOf 13 = .ok (.aload_n 0, 1) := by decide +kernel
theorem dX10_burnsOf_14 : decode cX10_burnsOf 14 = .ok (.bipush 20, 2) := by decide +kernel
theorem dX10_burnsOf_16 : decode cX10_burnsOf 16 = .ok (.invokevirtual 297, 3) := by decide +kernel
theorem dX10_burnsOf_19 : decode cX10_burnsOf 19 = .ok (.aload_n 0, 1) := by decide +kernel
theorem dX10_burnsOf_20 : decode cX10_burnsOf 20 = .ok (.bipush 10, 2) := by decide +kernel
theorem dX10_burnsOf_22 : decode cX10_burnsOf 22 = .ok (.invokevirtual 297, 3) := by decide +kernel
theorem dX10_burnsOf_25 : decode cX10_burnsOf 25 = .ok (.iload_n 2, 1) := by decide +kernel
theorem dX10_burnsOf_26 : decode cX10_burnsOf 26 = .ok (.ifCond .eq 14, 3) := by decide +kernel
theorem dX10_burnsOf_29 : decode cX10_burnsOf 29 = .ok (.iload_n 1, 1) := by decide +kernel
theorem dX10_burnsOf_30 : decode cX10_burnsOf 30 = .ok (.aload_n 0, 1) := by decide +kernel
theorem dX10_burnsOf_31 : decode cX10_burnsOf 31 = .ok (.getfield 300, 3) := by decide +kernel
theorem dX10_burnsOf_34 : decode cX10_burnsOf 34 = .ok (.iadd, 1) := by decide +kernel
theorem dX10_burnsOf_35 : decode cX10_burnsOf 35 = .ok (.iconst 3, 1) := by decide +kernel
theorem dX10_burnsOf_36 : decode cX10_burnsOf 36 = .ok (.imul, 1) := by decide +kernel
theorem dX10_burnsOf_37 : decode cX10_burnsOf 37 = .ok (.goto 9, 3) := by decide +kernel
theorem dX10_burnsOf_40 : decode cX10_burnsOf 40 = .ok (.iload_n 1, 1) := by decide +kernel
theorem dX10_burnsOf_41 : decode cX10_burnsOf 41 = .ok (.aload_n 0, 1) := by decide +kernel
theorem dX10_burnsOf_42 : decode cX10_burnsOf 42 = .ok (.getfield 300, 3) := by decide +kernel
theorem dX10_burnsOf_45 : decode cX10_burnsOf 45 = .ok (.iadd, 1) := by decide +kernel
theorem dX10_burnsOf_46 : decode cX10_burnsOf 46 = .ok (.ireturn, 1) := by decide +kernel
theorem dX10_meltsOf_0 : decode cX10_meltsOf 0 = .ok (.iload_n 1, 1) := by decide +kernel
theorem dX10_meltsOf_1 : decode cX10_meltsOf 1 = .ok (.istore_n 2, 1) := by decide +kernel
theorem dX10_meltsOf_2 : decode cX10_meltsOf 2 = .ok (.aload_n 0, 1) := by decide +kernel
theorem dX10_meltsOf_3 : decode cX10_meltsOf 3 = .ok (.getfield 294, 3) := by decide +kernel
theorem dX10_meltsOf_6 : decode cX10_meltsOf 6 = .ok (.iconst 5, 1) := by decide +kernel
theorem dX10_meltsOf_7 : decode cX10_meltsOf 7 = .ok (.if_icmp .ne 12, 3) := by decide +kernel
theorem dX10_meltsOf_10 : decode cX10_meltsOf 10 = .ok (.aload_n 0, 1) := by decide +kernel
theorem dX10_meltsOf_11 : decode cX10_meltsOf 11 = .ok (.bipush 60, 2) := by decide +kernel
theorem dX10_meltsOf_13 : decode cX10_meltsOf 13 = .ok (.invokevirtual 297, 3) := by decide +kernel
theorem dX10_meltsOf_16 : decode cX10_meltsOf 16 = .ok (.iinc 2 1, 3) := by decide +kernel
theorem dX10_meltsOf_19 : decode cX10_meltsOf 19 = .ok (.aload_n 0, 1) := by decide +kernel
theorem dX10_meltsOf_20 : decode cX10_meltsOf 20 = .ok (.getfield 294, 3) := by decide +kernel
theorem dX10_meltsOf_23 : decode cX10_meltsOf 23 = .ok (.iconst 2, 1) := by decide +kernel
theorem dX10_meltsOf_24 : decode cX10_meltsOf 24 = .ok (.invokestatic 186, 3) := by decide +kernel
theorem dX10_meltsOf_27 : decode cX10_meltsOf 27 = .ok (.istore_n 3, 1) := by decide +kernel
theorem dX10_meltsOf_28 : decode cX10_meltsOf 28 = .ok (.iload_n 3, 1) := by decide +kernel
theorem dX10_meltsOf_29 : decode cX10_meltsOf 29 = .ok (.ifCond .eq 9, 3) := by decide +kernel
theorem dX10_meltsOf_32 : decode cX10_meltsOf 32 = .ok (.aload_n 0, 1) := by decide +kernel
theorem dX10_meltsOf_33 : decode cX10_meltsOf 33 = .ok (.bipush 30, 2) := by decide +kernel
theorem dX10_meltsOf_35 : decode cX10_meltsOf 35 = .ok (.invokevirtual 297, 3) := by decide +kernel
theorem dX10_meltsOf_38 : decode cX10_meltsOf 38 = .ok (.aload_n 0, 1) := by decide +kernel
theorem dX10_meltsOf_39 : decode cX10_meltsOf 39 = .ok (.bipush 11, 2) := by decide +kernel
theorem dX10_meltsOf_41 : decode cX10_meltsOf 41 = .ok (.invokevirtual 297, 3) := by decide +kernel
theorem dX10_meltsOf_44 : decode cX10_meltsOf 44 = .ok (.aload_n 0, 1) := by decide +kernel
theorem dX10_meltsOf_45 : decode cX10_meltsOf 45 = .ok (.iload_n 2, 1) := by decide +kernel
theorem dX10_meltsOf_46 : decode cX10_meltsOf 46 = .ok (.invokevirtual 303, 3) := by decide +kernel
theorem dX10_meltsOf_49 : decode cX10_meltsOf 49 = .ok (.iconst 2, 1) := by decide +kernel
theorem dX10_meltsOf_50 : decode cX10_meltsOf 50 = .ok (.imul, 1) := by decide +kernel
theorem dX10_meltsOf_51 : decode cX10_meltsOf 51 = .ok (.istore 4, 2) := by decide +kernel
theorem dX10_meltsOf_53 : decode cX10_meltsOf 53 = .ok (.iload_n 3, 1) := by decide +kernel
theorem dX10_meltsOf_54 : decode cX10_meltsOf 54 = .ok (.ifCond .eq 14, 3) := by decide +kernel
theorem dX10_meltsOf_57 : decode cX10_meltsOf 57 = .ok (.iload 4, 2) := by decide +kernel
theorem dX10_meltsOf_59 : decode cX10_meltsOf 59 = .ok (.aload_n 0, 1) := by decide +kernel
theorem dX10_meltsOf_60 : decode cX10_meltsOf 60 = .ok (.iconst 1, 1) := by decide +kernel
theorem dX10_meltsOf_61 : decode cX10_meltsOf 61 = .ok (.invokevirtual 306, 3) := by decide +kernel
theorem dX10_meltsOf_64 : decode cX10_meltsOf 64 = .ok (.isub, 1) := by decide +kernel
theorem dX10_meltsOf_65 : decode cX10_meltsOf 65 = .ok (.goto 5, 3) := by decide +kernel
theorem dX10_meltsOf_68 : decode cX10_meltsOf 68 = .ok (.iload 4, 2) := by decide +kernel
theorem dX10_meltsOf_70 : decode cX10_meltsOf 70 = .ok (.ireturn, 1) := by decide +kernel
theorem dX10_runsOf_0 : decode cX10_runsOf 0 = .ok (.aload_n 0, 1) := by decide +kernel
theorem dX10_runsOf_1 : decode cX10_runsOf 1 = .ok (.getfield 294, 3) := by decide +kernel
theorem dX10_runsOf_4 : decode cX10_runsOf 4 = .ok (.bipush 6, 2) := by decide +kernel
theorem dX10_runsOf_6 : decode cX10_runsOf 6 = .ok (.if_icmp .ne 9, 3) := by decide +kernel
theorem dX10_runsOf_9 : decode cX10_runsOf 9 = .ok (.aload_n 0, 1) := by decide +kernel
theorem dX10_runsOf_10 : decode cX10_runsOf 10 = .ok (.bipush 70, 2) := by decide +kernel
theorem dX10_runsOf_12 : decode cX10_runsOf 12 = .ok (.invokevirtual 297, 3) := by decide +kernel
theorem dX10_runsOf_15 : decode cX10_runsOf 15 = .ok (.aload_n 0, 1) := by decide +kernel
theorem dX10_runsOf_16 : decode cX10_runsOf 16 = .ok (.getfield 294, 3) := by decide +kernel
theorem dX10_runsOf_19 : decode cX10_runsOf 19 = .ok (.iconst 3, 1) := by decide +kernel
theorem dX10_runsOf_20 : decode cX10_runsOf 20 = .ok (.invokestatic 186, 3) := by decide +kernel
theorem dX10_runsOf_23 : decode cX10_runsOf 23 = .ok (.istore_n 2, 1) := by decide +kernel
theorem dX10_runsOf_24 : decode cX10_runsOf 24 = .ok (.iload_n 2, 1) := by decide +kernel
theorem dX10_runsOf_25 : decode cX10_runsOf 25 = .ok (.ifCond .eq 9, 3) := by decide +kernel
theorem dX10_runsOf_28 : decode cX10_runsOf 28 = .ok (.aload_n 0, 1) := by decide +kernel
theorem dX10_runsOf_29 : decode cX10_runsOf 29 = .ok (.bipush 40, 2) := by decide +kernel
theorem dX10_runsOf_31 : decode cX10_runsOf 31 = .ok (.invokevirtual 297, 3) := by decide +kernel
theorem dX10_runsOf_34 : decode cX10_runsOf 34 = .ok (.aload_n 0, 1) := by decide +kernel
theorem dX10_runsOf_35 : decode cX10_runsOf 35 = .ok (.bipush 12, 2) := by decide +kernel
theorem dX10_runsOf_37 : decode cX10_runsOf 37 = .ok (.invokevirtual 297, 3) := by decide +kernel
theorem dX10_runsOf_40 : decode cX10_runsOf 40 = .ok (.iload_n 2, 1) := by decide +kernel
theorem dX10_runsOf_41 : decode cX10_runsOf 41 = .ok (.ifCond .eq 13, 3) := by decide +kernel
theorem dX10_runsOf_44 : decode cX10_runsOf 44 = .ok (.iload_n 1, 1) := by decide +kernel
theorem dX10_runsOf_45 : decode cX10_runsOf 45 = .ok (.aload_n 0, 1) := by decide +kernel
theorem dX10_runsOf_46 : decode cX10_runsOf 46 = .ok (.getfield 309, 3) := by decide +kernel
theorem dX10_runsOf_49 : decode cX10_runsOf 49 = .ok (.isub, 1) := by decide +kernel
theorem dX10_runsOf_50 : decode cX10_runsOf 50 = .ok (.ineg, 1) := by decide +kernel
theorem dX10_runsOf_51 : decode cX10_runsOf 51 = .ok (.goto 9, 3) := by decide +kernel
theorem dX10_runsOf_54 : decode cX10_runsOf 54 = .ok (.iload_n 1, 1) := by decide +kernel
theorem dX10_runsOf_55 : decode cX10_runsOf 55 = .ok (.aload_n 0, 1) := by decide +kernel
theorem dX10_runsOf_56 : decode cX10_runsOf 56 = .ok (.getfield 309, 3) := by decide +kernel
theorem dX10_runsOf_59 : decode cX10_runsOf 59 = .ok (.isub, 1) := by decide +kernel
theorem dX10_runsOf_60 : decode cX10_runsOf 60 = .ok (.istore_n 3, 1) := by decide +kernel
theorem dX10_runsOf_61 : decode cX10_runsOf 61 = .ok (.aload_n 0, 1) := by decide +kernel
theorem dX10_runsOf_62 : decode cX10_runsOf 62 = .ok (.getfield 294, 3) := by decide +kernel
theorem dX10_runsOf_65 : decode cX10_runsOf 65 = .ok (.bipush 6, 2) := by decide +kernel
theorem dX10_runsOf_67 : decode cX10_runsOf 67 = .ok (.if_icmp .ne 12, 3) := by decide +kernel
theorem dX10_runsOf_70 : decode cX10_runsOf 70 = .ok (.iload_n 3, 1) := by decide +kernel
theorem dX10_runsOf_71 : decode cX10_runsOf 71 = .ok (.aload_n 0, 1) := by decide +kernel
theorem dX10_runsOf_72 : decode cX10_runsOf 72 = .ok (.getfield 300, 3) := by decide +kernel
theorem dX10_runsOf_75 : decode cX10_runsOf 75 = .ok (.ixor, 1) := by decide +kernel
theorem dX10_runsOf_76 : decode cX10_runsOf 76 = .ok (.goto 4, 3) := by decide +kernel
theorem dX10_runsOf_79 : decode cX10_runsOf 79 = .ok (.iload_n 3, 1) := by decide +kernel
theorem dX10_runsOf_80 : decode cX10_runsOf 80 = .ok (.ireturn, 1) := by decide +kernel
theorem dX10_plainGlows_0 : decode cX10_plainGlows 0 = .ok (.aload_n 0, 1) := by decide +kernel
theorem dX10_plainGlows_1 : decode cX10_plainGlows 1 = .ok (.bipush 13, 2) := by decide +kernel
theorem dX10_plainGlows_3 : decode cX10_plainGlows 3 = .ok (.invokevirtual 297, 3) := by decide +kernel
theorem dX10_plainGlows_6 : decode cX10_plainGlows 6 = .ok (.aload_n 0, 1) := by decide +kernel
theorem dX10_plainGlows_7 : decode cX10_plainGlows 7 = .ok (.iload_n 1, 1) := by decide +kernel
theorem dX10_plainGlows_8 : decode cX10_plainGlows 8 = .ok (.invokevirtual 312, 3) := by decide +kernel
theorem dX10_plainGlows_11 : decode cX10_plainGlows 11 = .ok (.istore_n 2, 1) := by decide +kernel
theorem dX10_plainGlows_12 : decode cX10_plainGlows 12 = .ok (.iload_n 2, 1) := by decide +kernel
theorem dX10_plainGlows_13 : decode cX10_plainGlows 13 = .ok (.aload_n 0, 1) := by decide +kernel
theorem dX10_plainGlows_14 : decode cX10_plainGlows 14 = .ok (.iload_n 1, 1) := by decide +kernel
theorem dX10_plainGlows_15 : decode cX10_plainGlows 15 = .ok (.invokevirtual 306, 3) := by decide +kernel
theorem dX10_plainGlows_18 : decode cX10_plainGlows 18 = .ok (.ixor, 1) := by decide +kernel
theorem dX10_plainGlows_19 : decode cX10_plainGlows 19 = .ok (.ireturn, 1) := by decide +kernel
theorem dX10_glowsOf_0 : decode cX10_glowsOf 0 = .ok (.aload_n 0, 1) := by decide +kernel
theorem dX10_glowsOf_1 : decode cX10_glowsOf 1 = .ok (.getfield 294, 3) := by decide +kernel
theorem dX10_glowsOf_4 : decode cX10_glowsOf 4 = .ok (.bipush 6, 2) := by decide +kernel
theorem dX10_glowsOf_6 : decode cX10_glowsOf 6 = .ok (.if_icmp .ne 23, 3) := by decide +kernel
theorem dX10_glowsOf_9 : decode cX10_glowsOf 9 = .ok (.aload_n 0, 1) := by decide +kernel
theorem dX10_glowsOf_10 : decode cX10_glowsOf 10 = .ok (.bipush 71, 2) := by decide +kernel
theorem dX10_glowsOf_12 : decode cX10_glowsOf 12 = .ok (.invokevirtual 297, 3) := by decide +kernel
theorem dX10_glowsOf_15 : decode cX10_glowsOf 15 = .ok (.aload_n 0, 1) := by decide +kernel
theorem dX10_glowsOf_16 : decode cX10_glowsOf 16 = .ok (.iload_n 1, 1) := by decide +kernel
theorem dX10_glowsOf_17 : decode cX10_glowsOf 17 = .ok (.invokevirtual 312, 3) := by decide +kernel
theorem dX10_glowsOf_20 : decode cX10_glowsOf 20 = .ok (.istore_n 2, 1) := by decide +kernel
theorem dX10_glowsOf_21 : decode cX10_glowsOf 21 = .ok (.iload_n 2, 1) := by decide +kernel
theorem dX10_glowsOf_22 : decode cX10_glowsOf 22 = .ok (.aload_n 0, 1) := by decide +kernel
theorem dX10_glowsOf_23 : decode cX10_glowsOf 23 = .ok (.iload_n 1, 1) := by decide +kernel
theorem dX10_glowsOf_24 : decode cX10_glowsOf 24 = .ok (.invokevirtual 315, 3) := by decide +kernel
theorem dX10_glowsOf_27 : decode cX10_glowsOf 27 = .ok (.isub, 1) := by decide +kernel
theorem dX10_glowsOf_28 : decode cX10_glowsOf 28 = .ok (.ireturn, 1) := by decide +kernel
theorem dX10_glowsOf_29 : decode cX10_glowsOf 29 = .ok (.aload_n 0, 1) := by decide +kernel
theorem dX10_glowsOf_30 : decode cX10_glowsOf 30 = .ok (.getfield 294, 3) := by decide +kernel
theorem dX10_glowsOf_33 : decode cX10_glowsOf 33 = .ok (.iconst 4, 1) := by decide +kernel
theorem dX10_glowsOf_34 : decode cX10_glowsOf 34 = .ok (.if_icmp .ne 23, 3) := by decide +kernel
theorem dX10_glowsOf_37 : decode cX10_glowsOf 37 = .ok (.aload_n 0, 1) := by decide +kernel
theorem dX10_glowsOf_38 : decode cX10_glowsOf 38 = .ok (.bipush 50, 2) := by decide +kernel
theorem dX10_glowsOf_40 : decode cX10_glowsOf 40 = .ok (.invokevirtual 297, 3) := by decide +kernel
theorem dX10_glowsOf_43 : decode cX10_glowsOf 43 = .ok (.aload_n 0, 1) := by decide +kernel
theorem dX10_glowsOf_44 : decode cX10_glowsOf 44 = .ok (.iload_n 1, 1) := by decide +kernel
theorem dX10_glowsOf_45 : decode cX10_glowsOf 45 = .ok (.invokevirtual 315, 3) := by decide +kernel
theorem dX10_glowsOf_48 : decode cX10_glowsOf 48 = .ok (.istore_n 2, 1) := by decide +kernel
theorem dX10_glowsOf_49 : decode cX10_glowsOf 49 = .ok (.iload_n 2, 1) := by decide +kernel
theorem dX10_glowsOf_50 : decode cX10_glowsOf 50 = .ok (.aload_n 0, 1) := by decide +kernel
theorem dX10_glowsOf_51 : decode cX10_glowsOf 51 = .ok (.iconst 2, 1) := by decide +kernel
theorem dX10_glowsOf_52 : decode cX10_glowsOf 52 = .ok (.invokevirtual 303, 3) := by decide +kernel
theorem dX10_glowsOf_55 : decode cX10_glowsOf 55 = .ok (.isub, 1) := by decide +kernel
theorem dX10_glowsOf_56 : decode cX10_glowsOf 56 = .ok (.ireturn, 1) := by decide +kernel
theorem dX10_glowsOf_57 : decode cX10_glowsOf 57 = .ok (.aload_n 0, 1) := by decide +kernel
theorem dX10_glowsOf_58 : decode cX10_glowsOf 58 = .ok (.iload_n 1, 1) := by decide +kernel
theorem dX10_glowsOf_59 : decode cX10_glowsOf 59 = .ok (.invokevirtual 315, 3) := by decide +kernel
theorem dX10_glowsOf_62 : decode cX10_glowsOf 62 = .ok (.ireturn, 1) := by decide +kernel
theorem dX10_voice_0 : decode cX10_voice 0 = .ok (.aload_n 0, 1) := by decide +kernel
theorem dX10_voice_1 : decode cX10_voice 1 = .ok (.iload_n 1, 1) := by decide +kernel
theorem dX10_voice_2 : decode cX10_voice 2 = .ok (.invokevirtual 171, 3) := by decide +kernel
theorem dX10_voice_5 : decode cX10_voice 5 = .ok (.ifCond .eq 12, 3) := by decide +kernel
theorem dX10_voice_8 : decode cX10_voice 8 = .ok (.iload_n 2, 1) := by decide +kernel
theorem dX10_voice_9 : decode cX10_voice 9 = .ok (.iconst 0, 1) := by decide +kernel
theorem dX10_voice_10 : decode cX10_voice 10 = .ok (.iconst 3, 1) := by decide +kernel
theorem dX10_voice_11 : decode cX10_voice 11 = .ok (.invokestatic 70, 3) := by decide +kernel
theorem dX10_voice_14 : decode cX10_voice 14 = .ok (.ifCond .ne 10, 3) := by decide +kernel
theorem dX10_voice_17 : decode cX10_voice 17 = .ok (.aload_n 0, 1) := by decide +kernel
theorem dX10_voice_18 : decode cX10_voice 18 = .ok (.ldc 74, 2) := by decide +kernel
theorem dX10_voice_20 : decode cX10_voice 20 = .ok (.invokevirtual 75, 3) := by decide +kernel
theorem dX10_voice_23 : decode cX10_voice 23 = .ok (.ireturn, 1) := by decide +kernel
theorem dX10_voice_24 : decode cX10_voice 24 = .ok (.aload_n 0, 1) := by decide +kernel
theorem dX10_voice_25 : decode cX10_voice 25 = .ok (.iconst 0, 1) := by decide +kernel
theorem dX10_voice_26 : decode cX10_voice 26 = .ok (.putfield 291, 3) := by decide +kernel
theorem dX10_voice_29 : decode cX10_voice 29 = .ok (.aload_n 0, 1) := by decide +kernel
theorem dX10_voice_30 : decode cX10_voice 30 = .ok (.aload_n 0, 1) := by decide +kernel
theorem dX10_voice_31 : decode cX10_voice 31 = .ok (.iload_n 1, 1) := by decide +kernel
theorem dX10_voice_32 : decode cX10_voice 32 = .ok (.iconst 0, 1) := by decide +kernel
theorem dX10_voice_33 : decode cX10_voice 33 = .ok (.invokevirtual 177, 3) := by decide +kernel
theorem dX10_voice_36 : decode cX10_voice 36 = .ok (.putfield 294, 3) := by decide +kernel
theorem dX10_voice_39 : decode cX10_voice 39 = .ok (.aload_n 0, 1) := by decide +kernel
theorem dX10_voice_40 : decode cX10_voice 40 = .ok (.iload_n 1, 1) := by decide +kernel
theorem dX10_voice_41 : decode cX10_voice 41 = .ok (.putfield 300, 3) := by decide +kernel
theorem dX10_voice_44 : decode cX10_voice 44 = .ok (.aload_n 0, 1) := by decide +kernel
theorem dX10_voice_45 : decode cX10_voice 45 = .ok (.aload_n 0, 1) := by decide +kernel
theorem dX10_voice_46 : decode cX10_voice 46 = .ok (.iload_n 1, 1) := by decide +kernel
theorem dX10_voice_47 : decode cX10_voice 47 = .ok (.iconst 1, 1) := by decide +kernel
theorem dX10_voice_48 : decode cX10_voice 48 = .ok (.invokevirtual 177, 3) := by decide +kernel
theorem dX10_voice_51 : decode cX10_voice 51 = .ok (.putfield 309, 3) := by decide +kernel
theorem dX10_voice_54 : decode cX10_voice 54 = .ok (.iload_n 2, 1) := by decide +kernel
theorem dX10_voice_55 : decode cX10_voice 55 = .ok (.ifCond .ne 11, 3) := by decide +kernel
theorem dX10_voice_58 : decode cX10_voice 58 = .ok (.aload_n 0, 1) := by decide +kernel
theorem dX10_voice_59 : decode cX10_voice 59 = .ok (.iload_n 3, 1) := by decide +kernel
theorem dX10_voice_60 : decode cX10_voice 60 = .ok (.invokevirtual 303, 3) := by decide +kernel
theorem dX10_voice_63 : decode cX10_voice 63 = .ok (.goto 34, 3) := by decide +kernel
theorem dX10_voice_66 : decode cX10_voice 66 = .ok (.iload_n 2, 1) := by decide +kernel
theorem dX10_voice_67 : decode cX10_voice 67 = .ok (.iconst 1, 1) := by decide +kernel
theorem dX10_voice_68 : decode cX10_voice 68 = .ok (.if_icmp .ne 11, 3) := by decide +kernel
theorem dX10_voice_71 : decode cX10_voice 71 = .ok (.aload_n 0, 1) := by decide +kernel
theorem dX10_voice_72 : decode cX10_voice 72 = .ok (.iload_n 3, 1) := by decide +kernel
theorem dX10_voice_73 : decode cX10_voice 73 = .ok (.invokevirtual 312, 3) := by decide +kernel
theorem dX10_voice_76 : decode cX10_voice 76 = .ok (.goto 21, 3) := by decide +kernel
theorem dX10_voice_79 : decode cX10_voice 79 = .ok (.iload_n 2, 1) := by decide +kernel
theorem dX10_voice_80 : decode cX10_voice 80 = .ok (.iconst 2, 1) := by decide +kernel
theorem dX10_voice_81 : decode cX10_voice 81 = .ok (.if_icmp .ne 11, 3) := by decide +kernel
theorem dX10_voice_84 : decode cX10_voice 84 = .ok (.aload_n 0, 1) := by decide +kernel
theorem dX10_voice_85 : decode cX10_voice 85 = .ok (.iload_n 3, 1) := by decide +kernel
theorem dX10_voice_86 : decode cX10_voice 86 = .ok (.invokevirtual 306, 3) := by decide +kernel
theorem dX10_voice_89 : decode cX10_voice 89 = .ok (.goto 8, 3) := by decide +kernel
theorem dX10_voice_92 : decode cX10_voice 92 = .ok (.aload_n 0, 1) := by decide +kernel
theorem dX10_voice_93 : decode cX10_voice 93 = .ok (.iload_n 3, 1) := by decide +kernel
theorem dX10_voice_94 : decode cX10_voice 94 = .ok (.invokevirtual 318, 3) := by decide +kernel
theorem dX10_voice_97 : decode cX10_voice 97 = .ok (.ireturn, 1) := by decide +kernel
theorem dX10_trace_0 : decode cX10_trace 0 = .ok (.iload_n 1, 1) := by decide +kernel
theorem dX10_trace_1 : decode cX10_trace 1 = .ok (.iconst 0, 1) := by decide +kernel
theorem dX10_trace_2 : decode cX10_trace 2 = .ok (.aload_n 0, 1) := by decide +kernel
theorem dX10_trace_3 : decode cX10_trace 3 = .ok (.getfield 291, 3) := by decide +kernel
theorem dX10_trace_6 : decode cX10_trace 6 = .ok (.iconst 1, 1) := by decide +kernel
theorem dX10_trace_7 : decode cX10_trace 7 = .ok (.isub, 1) := by decide +kernel
theorem dX10_trace_8 : decode cX10_trace 8 = .ok (.invokestatic 70, 3) := by decide +kernel
theorem dX10_trace_11 : decode cX10_trace 11 = .ok (.ifCond .eq 12, 3) := by decide +kernel
theorem dX10_trace_14 : decode cX10_trace 14 = .ok (.aload_n 0, 1) := by decide +kernel
theorem dX10_trace_15 : decode cX10_trace 15 = .ok (.getfield 41, 3) := by decide +kernel
theorem dX10_trace_18 : decode cX10_trace 18 = .ok (.iload_n 1, 1) := by decide +kernel
theorem dX10_trace_19 : decode cX10_trace 19 = .ok (.iaload, 1) := by decide +kernel
theorem dX10_trace_20 : decode cX10_trace 20 = .ok (.goto 9, 3) := by decide +kernel
theorem dX10_trace_23 : decode cX10_trace 23 = .ok (.aload_n 0, 1) := by decide +kernel
theorem dX10_trace_24 : decode cX10_trace 24 = .ok (.ldc 225, 2) := by decide +kernel
theorem dX10_trace_26 : decode cX10_trace 26 = .ok (.invokevirtual 75, 3) := by decide +kernel
theorem dX10_trace_29 : decode cX10_trace 29 = .ok (.ireturn, 1) := by decide +kernel
theorem dX10_isSheet_0 : decode cX10_isSheet 0 = .ok (.iload_n 0, 1) := by decide +kernel
theorem dX10_isSheet_1 : decode cX10_isSheet 1 = .ok (.iconst 0, 1) := by decide +kernel
theorem dX10_isSheet_2 : decode cX10_isSheet 2 = .ok (.iconst 3, 1) := by decide +kernel
theorem dX10_isSheet_3 : decode cX10_isSheet 3 = .ok (.invokestatic 70, 3) := by decide +kernel
theorem dX10_isSheet_6 : decode cX10_isSheet 6 = .ok (.ireturn, 1) := by decide +kernel
theorem dX10_sheet_0 : decode cX10_sheet 0 = .ok (.iload_n 1, 1) := by decide +kernel
theorem dX10_sheet_1 : decode cX10_sheet 1 = .ok (.invokestatic 279, 3) := by decide +kernel
theorem dX10_sheet_4 : decode cX10_sheet 4 = .ok (.ifCond .eq 25, 3) := by decide +kernel
theorem dX10_sheet_7 : decode cX10_sheet 7 = .ok (.iload_n 2, 1) := by decide +kernel
theorem dX10_sheet_8 : decode cX10_sheet 8 = .ok (.ifCond .eq 28, 3) := by decide +kernel
theorem dX10_sheet_11 : decode cX10_sheet 11 = .ok (.iload_n 2, 1) := by decide +kernel
theorem dX10_sheet_12 : decode cX10_sheet 12 = .ok (.bipush 8, 2) := by decide +kernel
theorem dX10_sheet_14 : decode cX10_sheet 14 = .ok (.if_icmp .eq 22, 3) := by decide +kernel
theorem dX10_sheet_17 : decode cX10_sheet 17 = .ok (.iload_n 2, 1) := by decide +kernel
theorem dX10_sheet_18 : decode cX10_sheet 18 = .ok (.bipush 16, 2) := by decide +kernel
theorem dX10_sheet_20 : decode cX10_sheet 20 = .ok (.if_icmp .eq 16, 3) := by decide +kernel
theorem dX10_sheet_23 : decode cX10_sheet 23 = .ok (.iload_n 2, 1) := by decide +kernel
theorem dX10_sheet_24 : decode cX10_sheet 24 = .ok (.bipush 32, 2) := by decide +kernel
theorem dX10_sheet_26 : decode cX10_sheet 26 = .ok (.if_icmp .eq 10, 3) := by decide +kernel
theorem dX10_sheet_29 : decode cX10_sheet 29 = .ok (.aload_n 0, 1) := by decide +kernel
theorem dX10_sheet_30 : decode cX10_sheet 30 = .ok (.ldc 74, 2) := by decide +kernel
theorem dX10_sheet_32 : decode cX10_sheet 32 = .ok (.invokevirtual 75, 3) := by decide +kernel
theorem dX10_sheet_35 : decode cX10_sheet 35 = .ok (.ireturn, 1) := by decide +kernel
theorem dX10_sheet_36 : decode cX10_sheet 36 = .ok (.iload_n 2, 1) := by decide +kernel
theorem dX10_sheet_37 : decode cX10_sheet 37 = .ok (.ifCond .eq 14, 3) := by decide +kernel
theorem dX10_sheet_40 : decode cX10_sheet 40 = .ok (.iload_n 3, 1) := by decide +kernel
theorem dX10_sheet_41 : decode cX10_sheet 41 = .ok (.ifCond .ge 10, 3) := by decide +kernel
theorem dX10_sheet_44 : decode cX10_sheet 44 = .ok (.aload_n 0, 1) := by decide +kernel
theorem dX10_sheet_45 : decode cX10_sheet 45 = .ok (.ldc 229, 2) := by decide +kernel
theorem dX10_sheet_47 : decode cX10_sheet 47 = .ok (.invokevirtual 75, 3) := by decide +kernel
theorem dX10_sheet_50 : decode cX10_sheet 50 = .ok (.ireturn, 1) := by decide +kernel
theorem dX10_sheet_51 : decode cX10_sheet 51 = .ok (.iload_n 2, 1) := by decide +kernel
theorem dX10_sheet_52 : decode cX10_sheet 52 = .ok (.ifCond .eq 16, 3) := by decide +kernel
theorem dX10_sheet_55 : decode cX10_sheet 55 = .ok (.iload_n 3, 1) := by decide +kernel
theorem dX10_sheet_56 : decode cX10_sheet 56 = .ok (.bipush 40, 2) := by decide +kernel
theorem dX10_sheet_58 : decode cX10_sheet 58 = .ok (.if_icmp .le 10, 3) := by decide +kernel
theorem dX10_sheet_61 : decode cX10_sheet 61 = .ok (.aload_n 0, 1) := by decide +kernel
theorem dX10_sheet_62 : decode cX10_sheet 62 = .ok (.ldc 74, 2) := by decide +kernel
theorem dX10_sheet_64 : decode cX10_sheet 64 = .ok (.invokevirtual 75, 3) := by decide +kernel
theorem dX10_sheet_67 : decode cX10_sheet 67 = .ok (.ireturn, 1) := by decide +kernel
theorem dX10_sheet_68 : decode cX10_sheet 68 = .ok (.aload_n 0, 1) := by decide +kernel
theorem dX10_sheet_69 : decode cX10_sheet 69 = .ok (.getfield 44, 3) := by decide +kernel
theorem dX10_sheet_72 : decode cX10_sheet 72 = .ok (.iload_n 1, 1) := by decide +kernel
theorem dX10_sheet_73 : decode cX10_sheet 73 = .ok (.iload_n 2, 1) := by decide +kernel
theorem dX10_sheet_74 : decode cX10_sheet 74 = .ok (.iastore, 1) := by decide +kernel
theorem dX10_sheet_75 : decode cX10_sheet 75 = .ok (.aload_n 0, 1) := by decide +kernel
theorem dX10_sheet_76 : decode cX10_sheet 76 = .ok (.getfield 47, 3) := by decide +kernel
theorem dX10_sheet_79 : decode cX10_sheet 79 = .ok (.iload_n 1, 1) := by decide +kernel
theorem dX10_sheet_80 : decode cX10_sheet 80 = .ok (.iload_n 2, 1) := by decide +kernel
theorem dX10_sheet_81 : decode cX10_sheet 81 = .ok (.ifCond .ne 7, 3) := by decide +kernel
theorem dX10_sheet_84 : decode cX10_sheet 84 = .ok (.iconst 0, 1) := by decide +kernel
theorem dX10_sheet_85 : decode cX10_sheet 85 = .ok (.goto 4, 3) := by decide +kernel
theorem dX10_sheet_88 : decode cX10_sheet 88 = .ok (.iload_n 3, 1) := by decide +kernel
theorem dX10_sheet_89 : decode cX10_sheet 89 = .ok (.iastore, 1) := by decide +kernel
theorem dX10_sheet_90 : decode cX10_sheet 90 = .ok (.iconst 0, 1) := by decide +kernel
theorem dX10_sheet_91 : decode cX10_sheet 91 = .ok (.istore 4, 2) := by decide +kernel
theorem dX10_sheet_93 : decode cX10_sheet 93 = .ok (.iload 4, 2) := by decide +kernel
theorem dX10_sheet_95 : decode cX10_sheet 95 = .ok (.bipush 40, 2) := by decide +kernel
theorem dX10_sheet_97 : decode cX10_sheet 97 = .ok (.if_icmp .ge 22, 3) := by decide +kernel
theorem dX10_sheet_100 : decode cX10_sheet 100 = .ok (.aload_n 0, 1) := by decide +kernel
theorem dX10_sheet_101 : decode cX10_sheet 101 = .ok (.getfield 50, 3) := by decide +kernel
theorem dX10_sheet_104 : decode cX10_sheet 104 = .ok (.bipush 40, 2) := by decide +kernel
theorem dX10_sheet_106 : decode cX10_sheet 106 = .ok (.iload_n 1, 1) := by decide +kernel
theorem dX10_sheet_107 : decode cX10_sheet 107 = .ok (.imul, 1) := by decide +kernel
theorem dX10_sheet_108 : decode cX10_sheet 108 = .ok (.iload 4, 2) := by decide +kernel
theorem dX10_sheet_110 : decode cX10_sheet 110 = .ok (.iadd, 1) := by decide +kernel
theorem dX10_sheet_111 : decode cX10_sheet 111 = .ok (.iconst 0, 1) := by decide +kernel
theorem dX10_sheet_112 : decode cX10_sheet 112 = .ok (.iastore, 1) := by decide +kernel
theorem dX10_sheet_113 : decode cX10_sheet 113 = .ok (.iinc 4 1, 3) := by decide +kernel
theorem dX10_sheet_116 : decode cX10_sheet 116 = .ok (.goto (-23), 3) := by decide +kernel
theorem dX10_sheet_119 : decode cX10_sheet 119 = .ok (.iconst 1, 1) := by decide +kernel
theorem dX10_sheet_120 : decode cX10_sheet 120 = .ok (.ireturn, 1) := by decide +kernel
theorem dX10_put_0 : decode cX10_put 0 = .ok (.iload_n 1, 1) := by decide +kernel
theorem dX10_put_1 : decode cX10_put 1 = .ok (.invokestatic 279, 3) := by decide +kernel
theorem dX10_put_4 : decode cX10_put 4 = .ok (.ifCond .ne 10, 3) := by decide +kernel
theorem dX10_put_7 : decode cX10_put 7 = .ok (.aload_n 0, 1) := by decide +kernel
theorem dX10_put_8 : decode cX10_put 8 = .ok (.ldc 74, 2) := by decide +kernel
theorem dX10_put_10 : decode cX10_put 10 = .ok (.invokevirtual 75, 3) := by decide +kernel
theorem dX10_put_13 : decode cX10_put 13 = .ok (.ireturn, 1) := by decide +kernel
theorem dX10_put_14 : decode cX10_put 14 = .ok (.aload_n 0, 1) := by decide +kernel
theorem dX10_put_15 : decode cX10_put 15 = .ok (.getfield 44, 3) := by decide +kernel
theorem dX10_put_18 : decode cX10_put 18 = .ok (.iload_n 1, 1) := by decide +kernel
theorem dX10_put_19 : decode cX10_put 19 = .ok (.iaload, 1) := by decide +kernel
theorem dX10_put_20 : decode cX10_put 20 = .ok (.ifCond .ne 10, 3) := by decide +kernel
theorem dX10_put_23 : decode cX10_put 23 = .ok (.aload_n 0, 1) := by decide +kernel
theorem dX10_put_24 : decode cX10_put 24 = .ok (.ldc 225, 2) := by decide +kernel
theorem dX10_put_26 : decode cX10_put 26 = .ok (.invokevirtual 75, 3) := by decide +kernel
theorem dX10_put_29 : decode cX10_put 29 = .ok (.ireturn, 1) := by decide +kernel
theorem dX10_put_30 : decode cX10_put 30 = .ok (.iload_n 2, 1) := by decide +kernel
theorem dX10_put_31 : decode cX10_put 31 = .ok (.iconst 0, 1) := by decide +kernel
theorem dX10_put_32 : decode cX10_put 32 = .ok (.aload_n 0, 1) := by decide +kernel
theorem dX10_put_33 : decode cX10_put 33 = .ok (.getfield 47, 3) := by decide +kernel
theorem dX10_put_36 : decode cX10_put 36 = .ok (.iload_n 1, 1) := by decide +kernel
theorem dX10_put_37 : decode cX10_put 37 = .ok (.iaload, 1) := by decide +kernel
theorem dX10_put_38 : decode cX10_put 38 = .ok (.iconst 1, 1) := by decide +kernel
theorem dX10_put_39 : decode cX10_put 39 = .ok (.isub, 1) := by decide +kernel
theorem dX10_put_40 : decode cX10_put 40 = .ok (.invokestatic 70, 3) := by decide +kernel
theorem dX10_put_43 : decode cX10_put 43 = .ok (.ifCond .ne 10, 3) := by decide +kernel
theorem dX10_put_46 : decode cX10_put 46 = .ok (.aload_n 0, 1) := by decide +kernel
theorem dX10_put_47 : decode cX10_put 47 = .ok (.ldc 74, 2) := by decide +kernel
theorem dX10_put_49 : decode cX10_put 49 = .ok (.invokevirtual 75, 3) := by decide +kernel
theorem dX10_put_52 : decode cX10_put 52 = .ok (.ireturn, 1) := by decide +kernel
theorem dX10_put_53 : decode cX10_put 53 = .ok (.aload_n 0, 1) := by decide +kernel
theorem dX10_put_54 : decode cX10_put 54 = .ok (.getfield 50, 3) := by decide +kernel
theorem dX10_put_57 : decode cX10_put 57 = .ok (.bipush 40, 2) := by decide +kernel
theorem dX10_put_59 : decode cX10_put 59 = .ok (.iload_n 1, 1) := by decide +kernel
theorem dX10_put_60 : decode cX10_put 60 = .ok (.imul, 1) := by decide +kernel
theorem dX10_put_61 : decode cX10_put 61 = .ok (.iload_n 2, 1) := by decide +kernel
theorem dX10_put_62 : decode cX10_put 62 = .ok (.iadd, 1) := by decide +kernel
theorem dX10_put_63 : decode cX10_put 63 = .ok (.aload_n 0, 1) := by decide +kernel
theorem dX10_put_64 : decode cX10_put 64 = .ok (.getfield 44, 3) := by decide +kernel
theorem dX10_put_67 : decode cX10_put 67 = .ok (.iload_n 1, 1) := by decide +kernel
theorem dX10_put_68 : decode cX10_put 68 = .ok (.iaload, 1) := by decide +kernel
theorem dX10_put_69 : decode cX10_put 69 = .ok (.bipush 8, 2) := by decide +kernel
theorem dX10_put_71 : decode cX10_put 71 = .ok (.if_icmp .ne 8, 3) := by decide +kernel
theorem dX10_put_74 : decode cX10_put 74 = .ok (.iload_n 3, 1) := by decide +kernel
theorem dX10_put_75 : decode cX10_put 75 = .ok (.i2b, 1) := by decide +kernel
theorem dX10_put_76 : decode cX10_put 76 = .ok (.goto 20, 3) := by decide +kernel
theorem dX10_put_79 : decode cX10_put 79 = .ok (.aload_n 0, 1) := by decide +kernel
theorem dX10_put_80 : decode cX10_put 80 = .ok (.getfield 44, 3) := by decide +kernel
theorem dX10_put_83 : decode cX10_put 83 = .ok (.iload_n 1, 1) := by decide +kernel
theorem dX10_put_84 : decode cX10_put 84 = .ok (.iaload, 1) := by decide +kernel
theorem dX10_put_85 : decode cX10_put 85 = .ok (.bipush 16, 2) := by decide +kernel
theorem dX10_put_87 : decode cX10_put 87 = .ok (.if_icmp .ne 8, 3) := by decide +kernel
theorem dX10_put_90 : decode cX10_put 90 = .ok (.iload_n 3, 1) := by decide +kernel
theorem dX10_put_91 : decode cX10_put 91 = .ok (.i2s, 1) := by decide +kernel
theorem dX10_put_92 : decode cX10_put 92 = .ok (.goto 4, 3) := by decide +kernel
theorem dX10_put_95 : decode cX10_put 95 = .ok (.iload_n 3, 1) := by decide +kernel
theorem dX10_put_96 : decode cX10_put 96 = .ok (.iastore, 1) := by decide +kernel
theorem dX10_put_97 : decode cX10_put 97 = .ok (.iconst 1, 1) := by decide +kernel
theorem dX10_put_98 : decode cX10_put 98 = .ok (.ireturn, 1) := by decide +kernel
theorem dX10_move_0 : decode cX10_move 0 = .ok (.iload_n 1, 1) := by decide +kernel
theorem dX10_move_1 : decode cX10_move 1 = .ok (.invokestatic 279, 3) := by decide +kernel
theorem dX10_move_4 : decode cX10_move 4 = .ok (.ifCond .eq 10, 3) := by decide +kernel
theorem dX10_move_7 : decode cX10_move 7 = .ok (.iload_n 3, 1) := by decide +kernel
theorem dX10_move_8 : decode cX10_move 8 = .ok (.invokestatic 279, 3) := by decide +kernel
theorem dX10_move_11 : decode cX10_move 11 = .ok (.ifCond .ne 10, 3) := by decide +kernel
theorem dX10_move_14 : decode cX10_move 14 = .ok (.aload_n 0, 1) := by decide +kernel
theorem dX10_move_15 : decode cX10_move 15 = .ok (.ldc 74, 2) := by decide +kernel
theorem dX10_move_17 : decode cX10_move 17 = .ok (.invokevirtual 75, 3) := by decide +kernel
theorem dX10_move_20 : decode cX10_move 20 = .ok (.ireturn, 1) := by decide +kernel
theorem dX10_move_21 : decode cX10_move 21 = .ok (.aload_n 0, 1) := by decide +kernel
theorem dX10_move_22 : decode cX10_move 22 = .ok (.getfield 44, 3) := by decide +kernel
theorem dX10_move_25 : decode cX10_move 25 = .ok (.iload_n 1, 1) := by decide +kernel
theorem dX10_move_26 : decode cX10_move 26 = .ok (.iaload, 1) := by decide +kernel
theorem dX10_move_27 : decode cX10_move 27 = .ok (.ifCond .eq 12, 3) := by decide +kernel
theorem dX10_move_30 : decode cX10_move 30 = .ok (.aload_n 0, 1) := by decide +kernel
theorem dX10_move_31 : decode cX10_move 31 = .ok (.getfield 44, 3) := by decide +kernel
theorem dX10_move_34 : decode cX10_move 34 = .ok (.iload_n 3, 1) := by decide +kernel
theorem dX10_move_35 : decode cX10_move 35 = .ok (.iaload, 1) := by decide +kernel
theorem dX10_move_36 : decode cX10_move 36 = .ok (.ifCond .ne 10, 3) := by decide +kernel
theorem dX10_move_39 : decode cX10_move 39 = .ok (.aload_n 0, 1) := by decide +kernel
theorem dX10_move_40 : decode cX10_move 40 = .ok (.ldc 225, 2) := by decide +kernel
theorem dX10_move_42 : decode cX10_move 42 = .ok (.invokevirtual 75, 3) := by decide +kernel
theorem dX10_move_45 : decode cX10_move 45 = .ok (.ireturn, 1) := by decide +kernel
theorem dX10_move_46 : decode cX10_move 46 = .ok (.aload_n 0, 1) := by decide +kernel
theorem dX10_move_47 : decode cX10_move 47 = .ok (.getfield 44, 3) := by decide +kernel
theorem dX10_move_50 : decode cX10_move 50 = .ok (.iload_n 1, 1) := by decide +kernel
theorem dX10_move_51 : decode cX10_move 51 = .ok (.iaload, 1) := by decide +kernel
theorem dX10_move_52 : decode cX10_move 52 = .ok (.aload_n 0, 1) := by decide +kernel
theorem dX10_move_53 : decode cX10_move 53 = .ok (.getfield 44, 3) := by decide +kernel
theorem dX10_move_56 : decode cX10_move 56 = .ok (.iload_n 3, 1) := by decide +kernel
theorem dX10_move_57 : decode cX10_move 57 = .ok (.iaload, 1) := by decide +kernel
theorem dX10_move_58 : decode cX10_move 58 = .ok (.if_icmp .eq 10, 3) := by decide +kernel
theorem dX10_move_61 : decode cX10_move 61 = .ok (.aload_n 0, 1) := by decide +kernel
theorem dX10_move_62 : decode cX10_move 62 = .ok (.ldc 190, 2) := by decide +kernel
theorem dX10_move_64 : decode cX10_move 64 = .ok (.invokevirtual 75, 3) := by decide +kernel
theorem dX10_move_67 : decode cX10_move 67 = .ok (.ireturn, 1) := by decide +kernel
theorem dX10_move_68 : decode cX10_move 68 = .ok (.iload 5, 2) := by decide +kernel
theorem dX10_move_70 : decode cX10_move 70 = .ok (.ifCond .lt 47, 3) := by decide +kernel
theorem dX10_move_73 : decode cX10_move 73 = .ok (.iload_n 2, 1) := by decide +kernel
theorem dX10_move_74 : decode cX10_move 74 = .ok (.ifCond .lt 43, 3) := by decide +kernel
theorem dX10_move_77 : decode cX10_move 77 = .ok (.iload 4, 2) := by decide +kernel
theorem dX10_move_79 : decode cX10_move 79 = .ok (.ifCond .lt 38, 3) := by decide +kernel
theorem dX10_move_82 : decode cX10_move 82 = .ok (.iload_n 2, 1) := by decide +kernel
theorem dX10_move_83 : decode cX10_move 83 = .ok (.i2l, 1) := by decide +kernel
theorem dX10_move_84 : decode cX10_move 84 = .ok (.iload 5, 2) := by decide +kernel
theorem dX10_move_86 : decode cX10_move 86 = .ok (.i2l, 1) := by decide +kernel
theorem dX10_move_87 : decode cX10_move 87 = .ok (.ladd, 1) := by decide +kernel
theorem dX10_move_88 : decode cX10_move 88 = .ok (.aload_n 0, 1) := by decide +kernel
theorem dX10_move_89 : decode cX10_move 89 = .ok (.getfield 47, 3) := by decide +kernel
theorem dX10_move_92 : decode cX10_move 92 = .ok (.iload_n 1, 1) := by decide +kernel
theorem dX10_move_93 : decode cX10_move 93 = .ok (.iaload, 1) := by decide +kernel
theorem dX10_move_94 : decode cX10_move 94 = .ok (.i2l, 1) := by decide +kernel
theorem dX10_move_95 : decode cX10_move 95 = .ok (.lcmp, 1) := by decide +kernel
theorem dX10_move_96 : decode cX10_move 96 = .ok (.ifCond .gt 21, 3) := by decide +kernel
theorem dX10_move_99 : decode cX10_move 99 = .ok (.iload 4, 2) := by decide +kernel
theorem dX10_move_101 : decode cX10_move 101 = .ok (.i2l, 1) := by decide +kernel
theorem dX10_move_102 : decode cX10_move 102 = .ok (.iload 5, 2) := by decide +kernel
theorem dX10_move_104 : decode cX10_move 104 = .ok (.i2l, 1) := by decide +kernel
theorem dX10_move_105 : decode cX10_move 105 = .ok (.ladd, 1) := by decide +kernel
theorem dX10_move_106 : decode cX10_move 106 = .ok (.aload_n 0, 1) := by decide +kernel
theorem dX10_move_107 : decode cX10_move 107 = .ok (.getfield 47, 3) := by decide +kernel
theorem dX10_move_110 : decode cX10_move 110 = .ok (.iload_n 3, 1) := by decide +kernel
theorem dX10_move_111 : decode cX10_move 111 = .ok (.iaload, 1) := by decide +kernel
theorem dX10_move_112 : decode cX10_move 112 = .ok (.i2l, 1) := by decide +kernel
theorem dX10_move_113 : decode cX10_move 113 = .ok (.lcmp, 1) := by decide +kernel
theorem dX10_move_114 : decode cX10_move 114 = .ok (.ifCond .le 10, 3) := by decide +kernel
theorem dX10_move_117 : decode cX10_move 117 = .ok (.aload_n 0, 1) := by decide +kernel
theorem dX10_move_118 : decode cX10_move 118 = .ok (.ldc 74, 2) := by decide +kernel
theorem dX10_move_120 : decode cX10_move 120 = .ok (.invokevirtual 75, 3) := by decide +kernel
theorem dX10_move_123 : decode cX10_move 123 = .ok (.ireturn, 1) := by decide +kernel
theorem dX10_move_124 : decode cX10_move 124 = .ok (.iconst 0, 1) := by decide +kernel
theorem dX10_move_125 : decode cX10_move 125 = .ok (.istore 6, 2) := by decide +kernel
theorem dX10_move_127 : decode cX10_move 127 = .ok (.iload 6, 2) := by decide +kernel
theorem dX10_move_129 : decode cX10_move 129 = .ok (.iload 5, 2) := by decide +kernel
theorem dX10_move_131 : decode cX10_move 131 = .ok (.if_icmp .ge 30, 3) := by decide +kernel
theorem dX10_move_134 : decode cX10_move 134 = .ok (.aload_n 0, 1) := by decide +kernel
theorem dX10_move_135 : decode cX10_move 135 = .ok (.getfield 53, 3) := by decide +kernel
theorem dX10_move_138 : decode cX10_move 138 = .ok (.iload 6, 2) := by decide +kernel
theorem dX10_move_140 : decode cX10_move 140 = .ok (.aload_n 0, 1) := by decide +kernel
theorem dX10_move_141 : decode cX10_move 141 = .ok (.getfield 50, 3) := by decide +kernel
theorem dX10_move_144 : decode cX10_move 144 = .ok (.bipush 40, 2) := by decide +kernel
theorem dX10_move_146 : decode cX10_move 146 = .ok (.iload_n 1, 1) := by decide +kernel
theorem dX10_move_147 : decode cX10_move 147 = .ok (.imul, 1) := by decide +kernel
theorem dX10_move_148 : decode cX10_move 148 = .ok (.iload_n 2, 1) := by decide +kernel
theorem dX10_move_149 : decode cX10_move 149 = .ok (.iadd, 1) := by decide +kernel
theorem dX10_move_150 : decode cX10_move 150 = .ok (.iload 6, 2) := by decide +kernel
theorem dX10_move_152 : decode cX10_move 152 = .ok (.iadd, 1) := by decide +kernel
theorem dX10_move_153 : decode cX10_move 153 = .ok (.iaload, 1) := by decide +kernel
theorem dX10_move_154 : decode cX10_move 154 = .ok (.iastore, 1) := by decide +kernel
theorem dX10_move_155 : decode cX10_move 155 = .ok (.iinc 6 1, 3) := by decide +kernel
theorem dX10_move_158 : decode cX10_move 158 = .ok (.goto (-31), 3) := by decide +kernel
theorem dX10_move_161 : decode cX10_move 161 = .ok (.iconst 0, 1) := by decide +kernel
theorem dX10_move_162 : decode cX10_move 162 = .ok (.istore 6, 2) := by decide +kernel
theorem dX10_move_164 : decode cX10_move 164 = .ok (.iload 6, 2) := by decide +kernel
theorem dX10_move_166 : decode cX10_move 166 = .ok (.iload 5, 2) := by decide +kernel
theorem dX10_move_168 : decode cX10_move 168 = .ok (.if_icmp .ge 31, 3) := by decide +kernel
theorem dX10_move_171 : decode cX10_move 171 = .ok (.aload_n 0, 1) := by decide +kernel
theorem dX10_move_172 : decode cX10_move 172 = .ok (.getfield 50, 3) := by decide +kernel
theorem dX10_move_175 : decode cX10_move 175 = .ok (.bipush 40, 2) := by decide +kernel
theorem dX10_move_177 : decode cX10_move 177 = .ok (.iload_n 3, 1) := by decide +kernel
theorem dX10_move_178 : decode cX10_move 178 = .ok (.imul, 1) := by decide +kernel
theorem dX10_move_179 : decode cX10_move 179 = .ok (.iload 4, 2) := by decide +kernel
theorem dX10_move_181 : decode cX10_move 181 = .ok (.iadd, 1) := by decide +kernel
theorem dX10_move_182 : decode cX10_move 182 = .ok (.iload 6, 2) := by decide +kernel
theorem dX10_move_184 : decode cX10_move 184 = .ok (.iadd, 1) := by decide +kernel
theorem dX10_move_185 : decode cX10_move 185 = .ok (.aload_n 0, 1) := by decide +kernel
theorem dX10_move_186 : decode cX10_move 186 = .ok (.getfield 53, 3) := by decide +kernel
theorem dX10_move_189 : decode cX10_move 189 = .ok (.iload 6, 2) := by decide +kernel
theorem dX10_move_191 : decode cX10_move 191 = .ok (.iaload, 1) := by decide +kernel
theorem dX10_move_192 : decode cX10_move 192 = .ok (.iastore, 1) := by decide +kernel
theorem dX10_move_193 : decode cX10_move 193 = .ok (.iinc 6 1, 3) := by decide +kernel
theorem dX10_move_196 : decode cX10_move 196 = .ok (.goto (-32), 3) := by decide +kernel
theorem dX10_move_199 : decode cX10_move 199 = .ok (.iload 5, 2) := by decide +kernel
theorem dX10_move_201 : decode cX10_move 201 = .ok (.ireturn, 1) := by decide +kernel
theorem dX10_hedges_0 : decode cX10_hedges 0 = .ok (.iload_n 1, 1) := by decide +kernel
theorem dX10_hedges_1 : decode cX10_hedges 1 = .ok (.invokestatic 279, 3) := by decide +kernel
theorem dX10_hedges_4 : decode cX10_hedges 4 = .ok (.ifCond .ne 10, 3) := by decide +kernel
theorem dX10_hedges_7 : decode cX10_hedges 7 = .ok (.aload_n 0, 1) := by decide +kernel
theorem dX10_hedges_8 : decode cX10_hedges 8 = .ok (.ldc 74, 2) := by decide +kernel
theorem dX10_hedges_10 : decode cX10_hedges 10 = .ok (.invokevirtual 75, 3) := by decide +kernel
theorem dX10_hedges_13 : decode cX10_hedges 13 = .ok (.ireturn, 1) := by decide +kernel
theorem dX10_hedges_14 : decode cX10_hedges 14 = .ok (.aload_n 0, 1) := by decide +kernel
theorem dX10_hedges_15 : decode cX10_hedges 15 = .ok (.getfield 44, 3) := by decide +kernel
theorem dX10_hedges_18 : decode cX10_hedges 18 = .ok (.iload_n 1, 1) := by decide +kernel
theorem dX10_hedges_19 : decode cX10_hedges 19 = .ok (.iaload, 1) := by decide +kernel
theorem dX10_hedges_20 : decode cX10_hedges 20 = .ok (.ifCond .ne 10, 3) := by decide +kernel
theorem dX10_hedges_23 : decode cX10_hedges 23 = .ok (.aload_n 0, 1) := by decide +kernel
theorem dX10_hedges_24 : decode cX10_hedges 24 = .ok (.ldc 225, 2) := by decide +kernel
theorem dX10_hedges_26 : decode cX10_hedges 26 = .ok (.invokevirtual 75, 3) := by decide +kernel
theorem dX10_hedges_29 : decode cX10_hedges 29 = .ok (.ireturn, 1) := by decide +kernel
theorem dX10_hedges_30 : decode cX10_hedges 30 = .ok (.iconst 0, 1) := by decide +kernel
theorem dX10_hedges_31 : decode cX10_hedges 31 = .ok (.istore_n 2, 1) := by decide +kernel
theorem dX10_hedges_32 : decode cX10_hedges 32 = .ok (.iload_n 2, 1) := by decide +kernel
theorem dX10_hedges_33 : decode cX10_hedges 33 = .ok (.aload_n 0, 1) := by decide +kernel
theorem dX10_hedges_34 : decode cX10_hedges 34 = .ok (.getfield 47, 3) := by decide +kernel
theorem dX10_hedges_37 : decode cX10_hedges 37 = .ok (.iload_n 1, 1) := by decide +kernel
theorem dX10_hedges_38 : decode cX10_hedges 38 = .ok (.iaload, 1) := by decide +kernel
theorem dX10_hedges_39 : decode cX10_hedges 39 = .ok (.if_icmp .ge 55, 3) := by decide +kernel
theorem dX10_hedges_42 : decode cX10_hedges 42 = .ok (.aload_n 0, 1) := by decide +kernel
theorem dX10_hedges_43 : decode cX10_hedges 43 = .ok (.iload_n 2, 1) := by decide +kernel
theorem dX10_hedges_44 : decode cX10_hedges 44 = .ok (.invokevirtual 171, 3) := by decide +kernel
theorem dX10_hedges_47 : decode cX10_hedges 47 = .ok (.ifCond .eq 47, 3) := by decide +kernel
theorem dX10_hedges_50 : decode cX10_hedges 50 = .ok (.aload_n 0, 1) := by decide +kernel
theorem dX10_hedges_51 : decode cX10_hedges 51 = .ok (.getfield 50, 3) := by decide +kernel
theorem dX10_hedges_54 : decode cX10_hedges 54 = .ok (.bipush 40, 2) := by decide +kernel
theorem dX10_hedges_56 : decode cX10_hedges 56 = .ok (.iload_n 1, 1) := by decide +kernel
theorem dX10_hedges_57 : decode cX10_hedges 57 = .ok (.imul, 1) := by decide +kernel
theorem dX10_hedges_58 : decode cX10_hedges 58 = .ok (.iload_n 2, 1) := by decide +kernel
theorem dX10_hedges_59 : decode cX10_hedges 59 = .ok (.iadd, 1) := by decide +kernel
theorem dX10_hedges_60 : decode cX10_hedges 60 = .ok (.iaload, 1) := by decide +kernel
theorem dX10_hedges_61 : decode cX10_hedges 61 = .ok (.invokestatic 216, 3) := by decide +kernel
theorem dX10_hedges_64 : decode cX10_hedges 64 = .ok (.ifCond .eq 30, 3) := by decide +kernel
theorem dX10_hedges_67 : decode cX10_hedges 67 = .ok (.aload_n 0, 1) := by decide +kernel
theorem dX10_hedges_68 : decode cX10_hedges 68 = .ok (.getfield 9, 3) := by decide +kernel
theorem dX10_hedges_71 : decode cX10_hedges 71 = .ok (.iload_n 2, 1) := by decide +kernel
theorem dX10_hedges_72 : decode cX10_hedges 72 = .ok (.iconst 2, 1) := by decide +kernel
theorem dX10_hedges_73 : decode cX10_hedges 73 = .ok (.invokestatic 156, 3) := by decide +kernel
theorem dX10_hedges_76 : decode cX10_hedges 76 = .ok (.aload_n 0, 1) := by decide +kernel
theorem dX10_hedges_77 : decode cX10_hedges 77 = .ok (.getfield 50, 3) := by decide +kernel
theorem dX10_hedges_80 : decode cX10_hedges 80 = .ok (.bipush 40, 2) := by decide +kernel
theorem dX10_hedges_82 : decode cX10_hedges 82 = .ok (.iload_n 1, 1) := by decide +kernel
theorem dX10_hedges_83 : decode cX10_hedges 83 = .ok (.imul, 1) := by decide +kernel
theorem dX10_hedges_84 : decode cX10_hedges 84 = .ok (.iload_n 2, 1) := by decide +kernel
theorem dX10_hedges_85 : decode cX10_hedges 85 = .ok (.iadd, 1) := by decide +kernel
theorem dX10_hedges_86 : decode cX10_hedges 86 = .ok (.iaload, 1) := by decide +kernel
theorem dX10_hedges_87 : decode cX10_hedges 87 = .ok (.iastore, 1) := by decide +kernel
theorem dX10_hedges_88 : decode cX10_hedges 88 = .ok (.iinc 2 1, 3) := by decide +kernel
theorem dX10_hedges_91 : decode cX10_hedges 91 = .ok (.goto (-59), 3) := by decide +kernel
theorem dX10_hedges_94 : decode cX10_hedges 94 = .ok (.iload_n 2, 1) := by decide +kernel
theorem dX10_hedges_95 : decode cX10_hedges 95 = .ok (.ireturn, 1) := by decide +kernel
theorem dX10_judge_0 : decode cX10_judge 0 = .ok (.iload_n 1, 1) := by decide +kernel
theorem dX10_judge_1 : decode cX10_judge 1 = .ok (.invokestatic 279, 3) := by decide +kernel
theorem dX10_judge_4 : decode cX10_judge 4 = .ok (.ifCond .ne 10, 3) := by decide +kernel
theorem dX10_judge_7 : decode cX10_judge 7 = .ok (.aload_n 0, 1) := by decide +kernel
theorem dX10_judge_8 : decode cX10_judge 8 = .ok (.ldc 74, 2) := by decide +kernel
theorem dX10_judge_10 : decode cX10_judge 10 = .ok (.invokevirtual 75, 3) := by decide +kernel
theorem dX10_judge_13 : decode cX10_judge 13 = .ok (.ireturn, 1) := by decide +kernel
theorem dX10_judge_14 : decode cX10_judge 14 = .ok (.aload_n 0, 1) := by decide +kernel
theorem dX10_judge_15 : decode cX10_judge 15 = .ok (.getfield 44, 3) := by decide +kernel
theorem dX10_judge_18 : decode cX10_judge 18 = .ok (.iload_n 1, 1) := by decide +kernel
theorem dX10_judge_19 : decode cX10_judge 19 = .ok (.iaload, 1) := by decide +kernel
theorem dX10_judge_20 : decode cX10_judge 20 = .ok (.ifCond .ne 10, 3) := by decide +kernel
theorem dX10_judge_23 : decode cX10_judge 23 = .ok (.aload_n 0, 1) := by decide +kernel
theorem dX10_judge_24 : decode cX10_judge 24 = .ok (.ldc 225, 2) := by decide +kernel
theorem dX10_judge_26 : decode cX10_judge 26 = .ok (.invokevirtual 75, 3) := by decide +kernel
theorem dX10_judge_29 : decode cX10_judge 29 = .ok (.ireturn, 1) := by decide +kernel
theorem dX10_judge_30 : decode cX10_judge 30 = .ok (.iconst 0, 1) := by decide +kernel
theorem dX10_judge_31 : decode cX10_judge 31 = .ok (.istore_n 2, 1) := by decide +kernel
theorem dX10_judge_32 : decode cX10_judge 32 = .ok (.iload_n 2, 1) := by decide +kernel
theorem dX10_judge_33 : decode cX10_judge 33 = .ok (.aload_n 0, 1) := by decide +kernel
theorem dX10_judge_34 : decode cX10_judge 34 = .ok (.getfield 47, 3) := by decide +kernel
theorem dX10_judge_37 : decode cX10_judge 37 = .ok (.iload_n 1, 1) := by decide +kernel
theorem dX10_judge_38 : decode cX10_judge 38 = .ok (.iaload, 1) := by decide +kernel
theorem dX10_judge_39 : decode cX10_judge 39 = .ok (.if_icmp .ge 37, 3) := by decide +kernel
theorem dX10_judge_42 : decode cX10_judge 42 = .ok (.aload_n 0, 1) := by decide +kernel
theorem dX10_judge_43 : decode cX10_judge 43 = .ok (.iload_n 2, 1) := by decide +kernel
theorem dX10_judge_44 : decode cX10_judge 44 = .ok (.invokevirtual 241, 3) := by decide +kernel
theorem dX10_judge_47 : decode cX10_judge 47 = .ok (.ifCond .eq 29, 3) := by decide +kernel
theorem dX10_judge_50 : decode cX10_judge 50 = .ok (.aload_n 0, 1) := by decide +kernel
theorem dX10_judge_51 : decode cX10_judge 51 = .ok (.getfield 50, 3) := by decide +kernel
theorem dX10_judge_54 : decode cX10_judge 54 = .ok (.bipush 40, 2) := by decide +kernel
theorem dX10_judge_56 : decode cX10_judge 56 = .ok (.iload_n 1, 1) := by decide +kernel
theorem dX10_judge_57 : decode cX10_judge 57 = .ok (.imul, 1) := by decide +kernel
theorem dX10_judge_58 : decode cX10_judge 58 = .ok (.iload_n 2, 1) := by decide +kernel
theorem dX10_judge_59 : decode cX10_judge 59 = .ok (.iadd, 1) := by decide +kernel
theorem dX10_judge_60 : decode cX10_judge 60 = .ok (.iaload, 1) := by decide +kernel
theorem dX10_judge_61 : decode cX10_judge 61 = .ok (.aload_n 0, 1) := by decide +kernel
theorem dX10_judge_62 : decode cX10_judge 62 = .ok (.iload_n 2, 1) := by decide +kernel
theorem dX10_judge_63 : decode cX10_judge 63 = .ok (.iconst 3, 1) := by decide +kernel
theorem dX10_judge_64 : decode cX10_judge 64 = .ok (.invokevirtual 194, 3) := by decide +kernel
theorem dX10_judge_67 : decode cX10_judge 67 = .ok (.if_icmp .ne 9, 3) := by decide +kernel
theorem dX10_judge_70 : decode cX10_judge 70 = .ok (.iinc 2 1, 3) := by decide +kernel
theorem dX10_judge_73 : decode cX10_judge 73 = .ok (.goto (-41), 3) := by decide +kernel
theorem dX10_judge_76 : decode cX10_judge 76 = .ok (.iload_n 2, 1) := by decide +kernel
theorem dX10_judge_77 : decode cX10_judge 77 = .ok (.aload_n 0, 1) := by decide +kernel
theorem dX10_judge_78 : decode cX10_judge 78 = .ok (.getfield 47, 3) := by decide +kernel
theorem dX10_judge_81 : decode cX10_judge 81 = .ok (.iload_n 1, 1) := by decide +kernel
theorem dX10_judge_82 : decode cX10_judge 82 = .ok (.iaload, 1) := by decide +kernel
theorem dX10_judge_83 : decode cX10_judge 83 = .ok (.if_icmp .ne 17, 3) := by decide +kernel
theorem dX10_judge_86 : decode cX10_judge 86 = .ok (.iload_n 2, 1) := by decide +kernel
theorem dX10_judge_87 : decode cX10_judge 87 = .ok (.aload_n 0, 1) := by decide +kernel
theorem dX10_judge_88 : decode cX10_judge 88 = .ok (.getfield 9, 3) := by decide +kernel
theorem dX10_judge_91 : decode cX10_judge 91 = .ok (.iconst 3, 1) := by decide +kernel
theorem dX10_judge_92 : decode cX10_judge 92 = .ok (.iaload, 1) := by decide +kernel
theorem dX10_judge_93 : decode cX10_judge 93 = .ok (.if_icmp .ne 7, 3) := by decide +kernel
theorem dX10_judge_96 : decode cX10_judge 96 = .ok (.iconst (-1), 1) := by decide +kernel
theorem dX10_judge_97 : decode cX10_judge 97 = .ok (.goto 4, 3) := by decide +kernel
theorem dX10_judge_100 : decode cX10_judge 100 = .ok (.iload_n 2, 1) := by decide +kernel
theorem dX10_judge_101 : decode cX10_judge 101 = .ok (.ireturn, 1) := by decide +kernel
theorem dX10_image_0 : decode cX10_image 0 = .ok (.aload_n 0, 1) := by decide +kernel
theorem dX10_image_1 : decode cX10_image 1 = .ok (.getfield 9, 3) := by decide +kernel
theorem dX10_image_4 : decode cX10_image 4 = .ok (.aload_n 0, 1) := by decide +kernel
theorem dX10_image_5 : decode cX10_image 5 = .ok (.getfield 13, 3) := by decide +kernel
theorem dX10_image_8 : decode cX10_image 8 = .ok (.invokestatic 66, 3) := by decide +kernel
theorem dX10_image_11 : decode cX10_image 11 = .ok (.aload_n 0, 1) := by decide +kernel
theorem dX10_image_12 : decode cX10_image 12 = .ok (.dup, 1) := by decide +kernel
theorem dX10_image_13 : decode cX10_image 13 = .ok (.getfield 321, 3) := by decide +kernel
theorem dX10_image_16 : decode cX10_image 16 = .ok (.iconst 1, 1) := by decide +kernel
theorem dX10_image_17 : decode cX10_image 17 = .ok (.iadd, 1) := by decide +kernel
theorem dX10_image_18 : decode cX10_image 18 = .ok (.putfield 321, 3) := by decide +kernel
theorem dX10_image_21 : decode cX10_image 21 = .ok (.aload_n 0, 1) := by decide +kernel
theorem dX10_image_22 : decode cX10_image 22 = .ok (.getfield 321, 3) := by decide +kernel
theorem dX10_image_25 : decode cX10_image 25 = .ok (.ireturn, 1) := by decide +kernel
theorem dX10_restore_0 : decode cX10_restore 0 = .ok (.aload_n 0, 1) := by decide +kernel
theorem dX10_restore_1 : decode cX10_restore 1 = .ok (.getfield 321, 3) := by decide +kernel
theorem dX10_restore_4 : decode cX10_restore 4 = .ok (.ifCond .ne 10, 3) := by decide +kernel
theorem dX10_restore_7 : decode cX10_restore 7 = .ok (.aload_n 0, 1) := by decide +kernel
theorem dX10_restore_8 : decode cX10_restore 8 = .ok (.ldc 225, 2) := by decide +kernel
theorem dX10_restore_10 : decode cX10_restore 10 = .ok (.invokevirtual 75, 3) := by decide +kernel
theorem dX10_restore_13 : decode cX10_restore 13 = .ok (.ireturn, 1) := by decide +kernel
theorem dX10_restore_14 : decode cX10_restore 14 = .ok (.aload_n 0, 1) := by decide +kernel
theorem dX10_restore_15 : decode cX10_restore 15 = .ok (.getfield 13, 3) := by decide +kernel
theorem dX10_restore_18 : decode cX10_restore 18 = .ok (.aload_n 0, 1) := by decide +kernel
theorem dX10_restore_19 : decode cX10_restore 19 = .ok (.getfield 9, 3) := by decide +kernel
theorem dX10_restore_22 : decode cX10_restore 22 = .ok (.invokestatic 66, 3) := by decide +kernel
theorem dX10_restore_25 : decode cX10_restore 25 = .ok (.aload_n 0, 1) := by decide +kernel
theorem dX10_restore_26 : decode cX10_restore 26 = .ok (.getfield 9, 3) := by decide +kernel
theorem dX10_restore_29 : decode cX10_restore 29 = .ok (.iconst 0, 1) := by decide +kernel
theorem dX10_restore_30 : decode cX10_restore 30 = .ok (.iaload, 1) := by decide +kernel
theorem dX10_restore_31 : decode cX10_restore 31 = .ok (.ireturn, 1) := by decide +kernel
theorem dX10_tell_0 : decode cX10_tell 0 = .ok (.aload_n 0, 1) := by decide +kernel
theorem dX10_tell_1 : decode cX10_tell 1 = .ok (.getfield 9, 3) := by decide +kernel
theorem dX10_tell_4 : decode cX10_tell 4 = .ok (.bipush 6, 2) := by decide +kernel
theorem dX10_tell_6 : decode cX10_tell 6 = .ok (.iaload, 1) := by decide +kernel
theorem dX10_tell_7 : decode cX10_tell 7 = .ok (.bipush 20, 2) := by decide +kernel
theorem dX10_tell_9 : decode cX10_tell 9 = .ok (.if_icmp .ne 10, 3) := by decide +kernel
theorem dX10_tell_12 : decode cX10_tell 12 = .ok (.aload_n 0, 1) := by decide +kernel
theorem dX10_tell_13 : decode cX10_tell 13 = .ok (.ldc 79, 2) := by decide +kernel
theorem dX10_tell_15 : decode cX10_tell 15 = .ok (.invokevirtual 75, 3) := by decide +kernel
theorem dX10_tell_18 : decode cX10_tell 18 = .ok (.ireturn, 1) := by decide +kernel
theorem dX10_tell_19 : decode cX10_tell 19 = .ok (.aload_n 0, 1) := by decide +kernel
theorem dX10_tell_20 : decode cX10_tell 20 = .ok (.getfield 9, 3) := by decide +kernel
theorem dX10_tell_23 : decode cX10_tell 23 = .ok (.sipush 155, 3) := by decide +kernel
theorem dX10_tell_26 : decode cX10_tell 26 = .ok (.aload_n 0, 1) := by decide +kernel
theorem dX10_tell_27 : decode cX10_tell 27 = .ok (.getfield 9, 3) := by decide +kernel
theorem dX10_tell_30 : decode cX10_tell 30 = .ok (.bipush 6, 2) := by decide +kernel
theorem dX10_tell_32 : decode cX10_tell 32 = .ok (.iaload, 1) := by decide +kernel
theorem dX10_tell_33 : decode cX10_tell 33 = .ok (.iadd, 1) := by decide +kernel
theorem dX10_tell_34 : decode cX10_tell 34 = .ok (.iload_n 1, 1) := by decide +kernel
theorem dX10_tell_35 : decode cX10_tell 35 = .ok (.iastore, 1) := by decide +kernel
theorem dX10_tell_36 : decode cX10_tell 36 = .ok (.aload_n 0, 1) := by decide +kernel
theorem dX10_tell_37 : decode cX10_tell 37 = .ok (.getfield 9, 3) := by decide +kernel
theorem dX10_tell_40 : decode cX10_tell 40 = .ok (.bipush 6, 2) := by decide +kernel
theorem dX10_tell_42 : decode cX10_tell 42 = .ok (.dup2, 1) := by decide +kernel
theorem dX10_tell_43 : decode cX10_tell 43 = .ok (.iaload, 1) := by decide +kernel
theorem dX10_tell_44 : decode cX10_tell 44 = .ok (.iconst 1, 1) := by decide +kernel
theorem dX10_tell_45 : decode cX10_tell 45 = .ok (.iadd, 1) := by decide +kernel
theorem dX10_tell_46 : decode cX10_tell 46 = .ok (.iastore, 1) := by decide +kernel
theorem dX10_tell_47 : decode cX10_tell 47 = .ok (.aload_n 0, 1) := by decide +kernel
theorem dX10_tell_48 : decode cX10_tell 48 = .ok (.getfield 9, 3) := by decide +kernel
theorem dX10_tell_51 : decode cX10_tell 51 = .ok (.bipush 6, 2) := by decide +kernel
theorem dX10_tell_53 : decode cX10_tell 53 = .ok (.iaload, 1) := by decide +kernel
theorem dX10_tell_54 : decode cX10_tell 54 = .ok (.ireturn, 1) := by decide +kernel
theorem dX10_check_0 : decode cX10_check 0 = .ok (.aload_n 0, 1) := by decide +kernel
theorem dX10_check_1 : decode cX10_check 1 = .ok (.getfield 9, 3) := by decide +kernel
theorem dX10_check_4 : decode cX10_check 4 = .ok (.bipush 6, 2) := by decide +kernel
theorem dX10_check_6 : decode cX10_check 6 = .ok (.iaload, 1) := by decide +kernel
theorem dX10_check_7 : decode cX10_check 7 = .ok (.istore_n 1, 1) := by decide +kernel
theorem dX10_check_8 : decode cX10_check 8 = .ok (.aload_n 0, 1) := by decide +kernel
theorem dX10_check_9 : decode cX10_check 9 = .ok (.getfield 9, 3) := by decide +kernel
theorem dX10_check_12 : decode cX10_check 12 = .ok (.bipush 6, 2) := by decide +kernel
theorem dX10_check_14 : decode cX10_check 14 = .ok (.iconst 0, 1) := by decide +kernel
theorem dX10_check_15 : decode cX10_check 15 = .ok (.iastore, 1) := by decide +kernel
theorem dX10_check_16 : decode cX10_check 16 = .ok (.aload_n 0, 1) := by decide +kernel
theorem dX10_check_17 : decode cX10_check 17 = .ok (.getfield 9, 3) := by decide +kernel
theorem dX10_check_20 : decode cX10_check 20 = .ok (.aload_n 0, 1) := by decide +kernel
theorem dX10_check_21 : decode cX10_check 21 = .ok (.getfield 16, 3) := by decide +kernel
theorem dX10_check_24 : decode cX10_check 24 = .ok (.invokestatic 66, 3) := by decide +kernel
theorem dX10_check_27 : decode cX10_check 27 = .ok (.iconst 0, 1) := by decide +kernel
theorem dX10_check_28 : decode cX10_check 28 = .ok (.istore_n 2, 1) := by decide +kernel
theorem dX10_check_29 : decode cX10_check 29 = .ok (.iconst 0, 1) := by decide +kernel
theorem dX10_check_30 : decode cX10_check 30 = .ok (.istore_n 3, 1) := by decide +kernel
theorem dX10_check_31 : decode cX10_check 31 = .ok (.iload_n 3, 1) := by decide +kernel
theorem dX10_check_32 : decode cX10_check 32 = .ok (.iload_n 1, 1) := by decide +kernel
theorem dX10_check_33 : decode cX10_check 33 = .ok (.if_icmp .ge 44, 3) := by decide +kernel
theorem dX10_check_36 : decode cX10_check 36 = .ok (.iload_n 2, 1) := by decide +kernel
theorem dX10_check_37 : decode cX10_check 37 = .ok (.ifCond .ne 40, 3) := by decide +kernel
theorem dX10_check_40 : decode cX10_check 40 = .ok (.aload_n 0, 1) := by decide +kernel
theorem dX10_check_41 : decode cX10_check 41 = .ok (.invokevirtual 256, 3) := by decide +kernel
theorem dX10_check_44 : decode cX10_check 44 = .ok (.aload_n 0, 1) := by decide +kernel
theorem dX10_check_45 : decode cX10_check 45 = .ok (.getfield 9, 3) := by decide +kernel
theorem dX10_check_48 : decode cX10_check 48 = .ok (.sipush 155, 3) := by decide +kernel
theorem dX10_check_51 : decode cX10_check 51 = .ok (.iload_n 3, 1) := by decide +kernel
theorem dX10_check_52 : decode cX10_check 52 = .ok (.iadd, 1) := by decide +kernel
theorem dX10_check_53 : decode cX10_check 53 = .ok (.iaload, 1) := by decide +kernel
theorem dX10_check_54 : decode cX10_check 54 = .ok (.aload_n 0, 1) := by decide +kernel
theorem dX10_check_55 : decode cX10_check 55 = .ok (.getfield 9, 3) := by decide +kernel
theorem dX10_check_58 : decode cX10_check 58 = .ok (.iconst 3, 1) := by decide +kernel
theorem dX10_check_59 : decode cX10_check 59 = .ok (.iaload, 1) := by decide +kernel
theorem dX10_check_60 : decode cX10_check 60 = .ok (.if_icmp .ne 7, 3) := by decide +kernel
theorem dX10_check_63 : decode cX10_check 63 = .ok (.iconst 0, 1) := by decide +kernel
theorem dX10_check_64 : decode cX10_check 64 = .ok (.goto 6, 3) := by decide +kernel
theorem dX10_check_67 : decode cX10_check 67 = .ok (.iconst 1, 1) := by decide +kernel
theorem dX10_check_68 : decode cX10_check 68 = .ok (.iload_n 3, 1) := by decide +kernel
theorem dX10_check_69 : decode cX10_check 69 = .ok (.iadd, 1) := by decide +kernel
theorem dX10_check_70 : decode cX10_check 70 = .ok (.istore_n 2, 1) := by decide +kernel
theorem dX10_check_71 : decode cX10_check 71 = .ok (.iinc 3 1, 3) := by decide +kernel
theorem dX10_check_74 : decode cX10_check 74 = .ok (.goto (-43), 3) := by decide +kernel
theorem dX10_check_77 : decode cX10_check 77 = .ok (.aload_n 0, 1) := by decide +kernel
theorem dX10_check_78 : decode cX10_check 78 = .ok (.iload_n 2, 1) := by decide +kernel
theorem dX10_check_79 : decode cX10_check 79 = .ok (.invokevirtual 266, 3) := by decide +kernel
theorem dX10_check_82 : decode cX10_check 82 = .ok (.ireturn, 1) := by decide +kernel
theorem dX10_potsAll_0 : decode cX10_potsAll 0 = .ok (.iconst 0, 1) := by decide +kernel
theorem dX10_potsAll_1 : decode cX10_potsAll 1 = .ok (.istore_n 1, 1) := by decide +kernel
theorem dX10_potsAll_2 : decode cX10_potsAll 2 = .ok (.iconst 0, 1) := by decide +kernel
theorem dX10_potsAll_3 : decode cX10_potsAll 3 = .ok (.istore_n 2, 1) := by decide +kernel
theorem dX10_potsAll_4 : decode cX10_potsAll 4 = .ok (.iload_n 2, 1) := by decide +kernel
theorem dX10_potsAll_5 : decode cX10_potsAll 5 = .ok (.aload_n 0, 1) := by decide +kernel
theorem dX10_potsAll_6 : decode cX10_potsAll 6 = .ok (.getfield 9, 3) := by decide +kernel
theorem dX10_potsAll_9 : decode cX10_potsAll 9 = .ok (.iconst 2, 1) := by decide +kernel
theorem dX10_potsAll_10 : decode cX10_potsAll 10 = .ok (.iaload, 1) := by decide +kernel
theorem dX10_potsAll_11 : decode cX10_potsAll 11 = .ok (.if_icmp .ge 22, 3) := by decide +kernel
theorem dX10_potsAll_14 : decode cX10_potsAll 14 = .ok (.iload_n 1, 1) := by decide +kernel
theorem dX10_potsAll_15 : decode cX10_potsAll 15 = .ok (.aload_n 0, 1) := by decide +kernel
theorem dX10_potsAll_16 : decode cX10_potsAll 16 = .ok (.getfield 9, 3) := by decide +kernel
theorem dX10_potsAll_19 : decode cX10_potsAll 19 = .ok (.iload_n 2, 1) := by decide +kernel
theorem dX10_potsAll_20 : decode cX10_potsAll 20 = .ok (.iconst 0, 1) := by decide +kernel
theorem dX10_potsAll_21 : decode cX10_potsAll 21 = .ok (.invokestatic 191, 3) := by decide +kernel
theorem dX10_potsAll_24 : decode cX10_potsAll 24 = .ok (.iaload, 1) := by decide +kernel
theorem dX10_potsAll_25 : decode cX10_potsAll 25 = .ok (.iadd, 1) := by decide +kernel
theorem dX10_potsAll_26 : decode cX10_potsAll 26 = .ok (.istore_n 1, 1) := by decide +kernel
theorem dX10_potsAll_27 : decode cX10_potsAll 27 = .ok (.iinc 2 1, 3) := by decide +kernel
theorem dX10_potsAll_30 : decode cX10_potsAll 30 = .ok (.goto (-26), 3) := by decide +kernel
theorem dX10_potsAll_33 : decode cX10_potsAll 33 = .ok (.iload_n 1, 1) := by decide +kernel
theorem dX10_potsAll_34 : decode cX10_potsAll 34 = .ok (.ireturn, 1) := by decide +kernel
theorem dX10_count_0 : decode cX10_count 0 = .ok (.iload_n 1, 1) := by decide +kernel
theorem dX10_count_1 : decode cX10_count 1 = .ok (.tableswitch 120 0 9 #[55, 62, 69, 76, 83, 88, 93, 100, 108, 113], 55) := by decide +kernel
theorem dX10_count_56 : decode cX10_count 56 = .ok (.aload_n 0, 1) := by decide +kernel
theorem dX10_count_57 : decode cX10_count 57 = .ok (.getfield 9, 3) := by decide +kernel
theorem dX10_count_60 : decode cX10_count 60 = .ok (.iconst 1, 1) := by decide +kernel
theorem dX10_count_61 : decode cX10_count 61 = .ok (.iaload, 1) := by decide +kernel
theorem dX10_count_62 : decode cX10_count 62 = .ok (.ireturn, 1) := by decide +kernel
theorem dX10_count_63 : decode cX10_count 63 = .ok (.aload_n 0, 1) := by decide +kernel
theorem dX10_count_64 : decode cX10_count 64 = .ok (.getfield 9, 3) := by decide +kernel
theorem dX10_count_67 : decode cX10_count 67 = .ok (.iconst 2, 1) := by decide +kernel
theorem dX10_count_68 : decode cX10_count 68 = .ok (.iaload, 1) := by decide +kernel
theorem dX10_count_69 : decode cX10_count 69 = .ok (.ireturn, 1) := by decide +kernel
theorem dX10_count_70 : decode cX10_count 70 = .ok (.aload_n 0, 1) := by decide +kernel
theorem dX10_count_71 : decode cX10_count 71 = .ok (.getfield 9, 3) := by decide +kernel
theorem dX10_count_74 : decode cX10_count 74 = .ok (.iconst 3, 1) := by decide +kernel
theorem dX10_count_75 : decode cX10_count 75 = .ok (.iaload, 1) := by decide +kernel
theorem dX10_count_76 : decode cX10_count 76 = .ok (.ireturn, 1) := by decide +kernel
theorem dX10_count_77 : decode cX10_count 77 = .ok (.aload_n 0, 1) := by decide +kernel
theorem dX10_count_78 : decode cX10_count 78 = .ok (.getfield 9, 3) := by decide +kernel
theorem dX10_count_81 : decode cX10_count 81 = .ok (.iconst 0, 1) := by decide +kernel
theorem dX10_count_82 : decode cX10_count 82 = .ok (.iaload, 1) := by decide +kernel
theorem dX10_count_83 : decode cX10_count 83 = .ok (.ireturn, 1) := by decide +kernel
theorem dX10_count_84 : decode cX10_count 84 = .ok (.aload_n 0, 1) := by decide +kernel
theorem dX10_count_85 : decode cX10_count 85 = .ok (.invokevirtual 324, 3) := by decide +kernel
theorem dX10_count_88 : decode cX10_count 88 = .ok (.ireturn, 1) := by decide +kernel
theorem dX10_count_89 : decode cX10_count 89 = .ok (.aload_n 0, 1) := by decide +kernel
theorem dX10_count_90 : decode cX10_count 90 = .ok (.invokevirtual 285, 3) := by decide +kernel
theorem dX10_count_93 : decode cX10_count 93 = .ok (.ireturn, 1) := by decide +kernel
theorem dX10_count_94 : decode cX10_count 94 = .ok (.aload_n 0, 1) := by decide +kernel
theorem dX10_count_95 : decode cX10_count 95 = .ok (.getfield 9, 3) := by decide +kernel
theorem dX10_count_98 : decode cX10_count 98 = .ok (.iconst 5, 1) := by decide +kernel
theorem dX10_count_99 : decode cX10_count 99 = .ok (.iaload, 1) := by decide +kernel
theorem dX10_count_100 : decode cX10_count 100 = .ok (.ireturn, 1) := by decide +kernel
theorem dX10_count_101 : decode cX10_count 101 = .ok (.aload_n 0, 1) := by decide +kernel
theorem dX10_count_102 : decode cX10_count 102 = .ok (.getfield 9, 3) := by decide +kernel
theorem dX10_count_105 : decode cX10_count 105 = .ok (.bipush 6, 2) := by decide +kernel
theorem dX10_count_107 : decode cX10_count 107 = .ok (.iaload, 1) := by decide +kernel
theorem dX10_count_108 : decode cX10_count 108 = .ok (.ireturn, 1) := by decide +kernel
theorem dX10_count_109 : decode cX10_count 109 = .ok (.aload_n 0, 1) := by decide +kernel
theorem dX10_count_110 : decode cX10_count 110 = .ok (.getfield 291, 3) := by decide +kernel
theorem dX10_count_113 : decode cX10_count 113 = .ok (.ireturn, 1) := by decide +kernel
theorem dX10_count_114 : decode cX10_count 114 = .ok (.aload_n 0, 1) := by decide +kernel
theorem dX10_count_115 : decode cX10_count 115 = .ok (.getfield 9, 3) := by decide +kernel
theorem dX10_count_118 : decode cX10_count 118 = .ok (.iconst 4, 1) := by decide +kernel
theorem dX10_count_119 : decode cX10_count 119 = .ok (.iaload, 1) := by decide +kernel
theorem dX10_count_120 : decode cX10_count 120 = .ok (.ireturn, 1) := by decide +kernel
theorem dX10_count_121 : decode cX10_count 121 = .ok (.aload_n 0, 1) := by decide +kernel
theorem dX10_count_122 : decode cX10_count 122 = .ok (.ldc 74, 2) := by decide +kernel
theorem dX10_count_124 : decode cX10_count 124 = .ok (.invokevirtual 75, 3) := by decide +kernel
theorem dX10_count_127 : decode cX10_count 127 = .ok (.ireturn, 1) := by decide +kernel
theorem dX10_told_0 : decode cX10_told 0 = .ok (.iload_n 1, 1) := by decide +kernel
theorem dX10_told_1 : decode cX10_told 1 = .ok (.iconst 1, 1) := by decide +kernel
theorem dX10_told_2 : decode cX10_told 2 = .ok (.iconst 5, 1) := by decide +kernel
theorem dX10_told_3 : decode cX10_told 3 = .ok (.invokestatic 70, 3) := by decide +kernel
theorem dX10_told_6 : decode cX10_told 6 = .ok (.ifCond .eq 12, 3) := by decide +kernel
theorem dX10_told_9 : decode cX10_told 9 = .ok (.aload_n 0, 1) := by decide +kernel
theorem dX10_told_10 : decode cX10_told 10 = .ok (.getfield 19, 3) := by decide +kernel
theorem dX10_told_13 : decode cX10_told 13 = .ok (.iload_n 1, 1) := by decide +kernel
theorem dX10_told_14 : decode cX10_told 14 = .ok (.iaload, 1) := by decide +kernel
theorem dX10_told_15 : decode cX10_told 15 = .ok (.goto 9, 3) := by decide +kernel
theorem dX10_told_18 : decode cX10_told 18 = .ok (.aload_n 0, 1) := by decide +kernel
theorem dX10_told_19 : decode cX10_told 19 = .ok (.ldc 74, 2) := by decide +kernel
theorem dX10_told_21 : decode cX10_told 21 = .ok (.invokevirtual 75, 3) := by decide +kernel
theorem dX10_told_24 : decode cX10_told 24 = .ok (.ireturn, 1) := by decide +kernel
theorem dJ6_bitCount_0f7a4_0 : decode cJ6_bitCount_0f7a4 0 = .ok (.iload_n 0, 1) := by decide +kernel
theorem dJ6_bitCount_0f7a4_1 : decode cJ6_bitCount_0f7a4 1 = .ok (.iload_n 0, 1) := by decide +kernel
theorem dJ6_bitCount_0f7a4_2 : decode cJ6_bitCount_0f7a4 2 = .ok (.iconst 1, 1) := by decide +kernel
theorem dJ6_bitCount_0f7a4_3 : decode cJ6_bitCount_0f7a4 3 = .ok (.iushr, 1) := by decide +kernel
theorem dJ6_bitCount_0f7a4_4 : decode cJ6_bitCount_0f7a4 4 = .ok (.ldc_w 265, 3) := by decide +kernel
theorem dJ6_bitCount_0f7a4_7 : decode cJ6_bitCount_0f7a4 7 = .ok (.iand, 1) := by decide +kernel
theorem dJ6_bitCount_0f7a4_8 : decode cJ6_bitCount_0f7a4 8 = .ok (.isub, 1) := by decide +kernel
theorem dJ6_bitCount_0f7a4_9 : decode cJ6_bitCount_0f7a4 9 = .ok (.istore_n 0, 1) := by decide +kernel
theorem dJ6_bitCount_0f7a4_10 : decode cJ6_bitCount_0f7a4 10 = .ok (.iload_n 0, 1) := by decide +kernel
theorem dJ6_bitCount_0f7a4_11 : decode cJ6_bitCount_0f7a4 11 = .ok (.ldc_w 266, 3) := by decide +kernel
theorem dJ6_bitCount_0f7a4_14 : decode cJ6_bitCount_0f7a4 14 = .ok (.iand, 1) := by decide +kernel
theorem dJ6_bitCount_0f7a4_15 : decode cJ6_bitCount_0f7a4 15 = .ok (.iload_n 0, 1) := by decide +kernel
theorem dJ6_bitCount_0f7a4_16 : decode cJ6_bitCount_0f7a4 16 = .ok (.iconst 2, 1) := by decide +kernel
theorem dJ6_bitCount_0f7a4_17 : decode cJ6_bitCount_0f7a4 17 = .ok (.iushr, 1) := by decide +kernel
theorem dJ6_bitCount_0f7a4_18 : decode cJ6_bitCount_0f7a4 18 = .ok (.ldc_w 266, 3) := by decide +kernel
theorem dJ6_bitCount_0f7a4_21 : decode cJ6_bitCount_0f7a4 21 = .ok (.iand, 1) := by decide +kernel
theorem dJ6_bitCount_0f7a4_22 : decode cJ6_bitCount_0f7a4 22 = .ok (.iadd, 1) := by decide +kernel
theorem dJ6_bitCount_0f7a4_23 : decode cJ6_bitCount_0f7a4 23 = .ok (.istore_n 0, 1) := by decide +kernel
theorem dJ6_bitCount_0f7a4_24 : decode cJ6_bitCount_0f7a4 24 = .ok (.iload_n 0, 1) := by decide +kernel
theorem dJ6_bitCount_0f7a4_25 : decode cJ6_bitCount_0f7a4 25 = .ok (.iload_n 0, 1) := by decide +kernel
theorem dJ6_bitCount_0f7a4_26 : decode cJ6_bitCount_0f7a4 26 = .ok (.iconst 4, 1) := by decide +kernel
theorem dJ6_bitCount_0f7a4_27 : decode cJ6_bitCount_0f7a4 27 = .ok (.iushr, 1) := by decide +kernel
theorem dJ6_bitCount_0f7a4_28 : decode cJ6_bitCount_0f7a4 28 = .ok (.iadd, 1) := by decide +kernel
theorem dJ6_bitCount_0f7a4_29 : decode cJ6_bitCount_0f7a4 29 = .ok (.ldc_w 267, 3) := by decide +kernel
theorem dJ6_bitCount_0f7a4_32 : decode cJ6_bitCount_0f7a4 32 = .ok (.iand, 1) := by decide +kernel
theorem dJ6_bitCount_0f7a4_33 : decode cJ6_bitCount_0f7a4 33 = .ok (.istore_n 0, 1) := by decide +kernel
theorem dJ6_bitCount_0f7a4_34 : decode cJ6_bitCount_0f7a4 34 = .ok (.iload_n 0, 1) := by decide +kernel
theorem dJ6_bitCount_0f7a4_35 : decode cJ6_bitCount_0f7a4 35 = .ok (.iload_n 0, 1) := by decide +kernel
theorem dJ6_bitCount_0f7a4_36 : decode cJ6_bitCount_0f7a4 36 = .ok (.bipush 8, 2) := by decide +kernel
theorem dJ6_bitCount_0f7a4_38 : decode cJ6_bitCount_0f7a4 38 = .ok (.iushr, 1) := by decide +kernel
theorem dJ6_bitCount_0f7a4_39 : decode cJ6_bitCount_0f7a4 39 = .ok (.iadd, 1) := by decide +kernel
theorem dJ6_bitCount_0f7a4_40 : decode cJ6_bitCount_0f7a4 40 = .ok (.istore_n 0, 1) := by decide +kernel
theorem dJ6_bitCount_0f7a4_41 : decode cJ6_bitCount_0f7a4 41 = .ok (.iload_n 0, 1) := by decide +kernel
theorem dJ6_bitCount_0f7a4_42 : decode cJ6_bitCount_0f7a4 42 = .ok (.iload_n 0, 1) := by decide +kernel
theorem dJ6_bitCount_0f7a4_43 : decode cJ6_bitCount_0f7a4 43 = .ok (.bipush 16, 2) := by decide +kernel
theorem dJ6_bitCount_0f7a4_45 : decode cJ6_bitCount_0f7a4 45 = .ok (.iushr, 1) := by decide +kernel
theorem dJ6_bitCount_0f7a4_46 : decode cJ6_bitCount_0f7a4 46 = .ok (.iadd, 1) := by decide +kernel
theorem dJ6_bitCount_0f7a4_47 : decode cJ6_bitCount_0f7a4 47 = .ok (.istore_n 0, 1) := by decide +kernel
theorem dJ6_bitCount_0f7a4_48 : decode cJ6_bitCount_0f7a4 48 = .ok (.iload_n 0, 1) := by decide +kernel
theorem dJ6_bitCount_0f7a4_49 : decode cJ6_bitCount_0f7a4 49 = .ok (.bipush 63, 2) := by decide +kernel
theorem dJ6_bitCount_0f7a4_51 : decode cJ6_bitCount_0f7a4 51 = .ok (.iand, 1) := by decide +kernel
theorem dJ6_bitCount_0f7a4_52 : decode cJ6_bitCount_0f7a4 52 = .ok (.ireturn, 1) := by decide +kernel
end
section
/-! the words that the instructions need, by their places; the classes' fields -/
theorem gin_X0 : ∀ w ∈ u_ws RX0 TX0 4, w ∈ lw_gd := za_gds (by decide +kernel) (by decide +kernel)
theorem gin_X1 : ∀ w ∈ u_ws RX1 TX1 7, w ∈ lw_gd := za_gds (by decide +kernel) (by decide +kernel)
theorem gin_X2 : ∀ w ∈ u_ws RX2 TX2 4, w ∈ lw_gd := za_gds (by decide +kernel) (by decide +kernel)
theorem gin_X3 : ∀ w ∈ u_ws RX3 TX3 5, w ∈ lw_gd := za_gds (by decide +kernel) (by decide +kernel)
theorem gin_X4 : ∀ w ∈ u_ws RX4 TX4 3, w ∈ lw_gd := za_gds (by decide +kernel) (by decide +kernel)
theorem gin_X5 : ∀ w ∈ u_ws RX5 TX5 6, w ∈ lw_gd := za_gds (by decide +kernel) (by decide +kernel)
theorem gin_X6 : ∀ w ∈ u_ws RX6 TX6 3, w ∈ lw_gd := za_gds (by decide +kernel) (by decide +kernel)
theorem gin_X7 : ∀ w ∈ u_ws RX7 TX7 7, w ∈ lw_gd := za_gds (by decide +kernel) (by decide +kernel)
theorem gin_X8 : ∀ w ∈ u_ws RX8 TX8 5, w ∈ lw_gd := za_gds (by decide +kernel) (by decide +kernel)
theorem gin_X9 : ∀ w ∈ u_ws RX9 TX9 10, w ∈ lw_gd := za_gds (by decide +kernel) (by decide +kernel)
theorem gin_X10 : ∀ w ∈ u_ws RX10 TX10 23, w ∈ lw_gd := za_gds (by decide +kernel) (by decide +kernel)
def za_I (n : Nat) (z : za_L) : Prop := z ∈ za_cells ∧ ∀ (g : za_L → Nat) (cy : Nat → ClassId) (M : za_M), za_E g cy M z = .inl (cy 0, n, .inl (M.1 z))
theorem za_I_of {n : Nat} {z : za_L} (h : z ∈ za_cells) (k : ∀ (g : za_L → Nat) (cy : Nat → ClassId) (M : za_M), za_E g cy M z = .inl (cy 0, n, .inl (M.1 z))) : za_I n z := ⟨h, k⟩
theorem za_ifp {c : Prop} {_ : Decidable c} {A B : Prop} (h : if c then A else B) (hc : c) : A := by rwa [if_pos hc] at h
theorem za_ifn {c : Prop} {_ : Decidable c} {A B : Prop} (h : if c then A else B) (hc : ¬ c) : B := by rwa [if_neg hc] at h
theorem za_Bf {v : Int32} (h : za_B v) : fits .boolean (.int v) = true := by rcases h with rfl | rfl <;> rfl
theorem zk_b10 : (Int8.ofInt 10).toInt32 = 10 := by decide
theorem w_125 : Cond.fieldLink RX0 9 "AshLoans$Ash" "kind" "I" ∈ lw_gd := za_gd 125 (by decide +kernel) rfl
theorem pf_X0_9 : za_FL RX0 9 0 0 4 RX0 TX0 "AshLoans$Ash" := ⟨rfl, gin_X0, by decide, w_125, rfl⟩
theorem pt_X0_0 : za_FT 0 4 TX0 .int := ⟨rfl, by decide +kernel, ⟨tyX0, tyX0_ok⟩, nmX0⟩
theorem w_128 : Cond.fieldLink RX0 15 "AshLoans$Ash" "m" "I" ∈ lw_gd := za_gd 128 (by decide +kernel) rfl
theorem pf_X0_15 : za_FL RX0 15 0 1 4 RX0 TX0 "AshLoans$Ash" := ⟨rfl, gin_X0, by decide, w_128, rfl⟩
theorem pt_X0_1 : za_FT 1 4 TX0 .int := ⟨rfl, by decide +kernel, ⟨tyX0, tyX0_ok⟩, nmX0⟩
theorem zk_i0 : Int32.ofInt 0 = 0 := by decide
theorem w_131 : Cond.fieldLink RX0 18 "AshLoans$Ash" "growth" "I" ∈ lw_gd := za_gd 131 (by decide +kernel) rfl
theorem pf_X0_18 : za_FL RX0 18 0 2 4 RX0 TX0 "AshLoans$Ash" := ⟨rfl, gin_X0, by decide, w_131, rfl⟩
theorem pt_X0_2 : za_FT 2 4 TX0 .int := ⟨rfl, by decide +kernel, ⟨tyX0, tyX0_ok⟩, nmX0⟩
theorem w_134 : Cond.fieldLink RX0 21 "AshLoans$Ash" "goesTo" "I" ∈ lw_gd := za_gd 134 (by decide +kernel) rfl
theorem pf_X0_21 : za_FL RX0 21 0 3 4 RX0 TX0 "AshLoans$Ash" := ⟨rfl, gin_X0, by decide, w_134, rfl⟩
theorem pt_X0_3 : za_FT 3 4 TX0 .int := ⟨rfl, by decide +kernel, ⟨tyX0, tyX0_ok⟩, nmX0⟩
theorem zk_i4 : Int32.ofInt 4 = 4 := by decide
theorem zk_b8 : (Int8.ofInt 8).toInt32 = 8 := by decide
theorem zk_i1 : Int32.ofInt 1 = 1 := by decide
theorem zk_b6 : (Int8.ofInt 6).toInt32 = 6 := by decide
theorem w_151 : Cond.fieldLink RX4 9 "AshLoans$Potter" "bushels" "[I" ∈ lw_gd := za_gd 151 (by decide +kernel) rfl
theorem pf_X4_9 : za_FL RX4 9 4 0 3 RX4 TX4 "AshLoans$Potter" := ⟨rfl, gin_X4, by decide, w_151, rfl⟩
theorem zk_i5 : Int32.ofInt 5 = 5 := by decide
theorem w_679 : Cond.methodLink RX4 22 arraycopyName ∈ lw_gd := za_gd 679 (by decide +kernel) rfl
theorem w_485 : Cond.native arraycopyName ∈ lw_gd := za_gd 485 (by decide +kernel) rfl
theorem w_484 : Cond.static arraycopyName ∈ lw_gd := za_gd 484 (by decide +kernel) rfl
theorem w_86 : Cond.initialized "java/lang/System" ∈ lw_gd := za_gd 86 (by decide +kernel) rfl
theorem w_154 : Cond.fieldLink RX4 15 "AshLoans$Potter" "pots" "I" ∈ lw_gd := za_gd 154 (by decide +kernel) rfl
theorem pf_X4_15 : za_FL RX4 15 4 1 3 RX4 TX4 "AshLoans$Potter" := ⟨rfl, gin_X4, by decide, w_154, rfl⟩
theorem pt_X4_1 : za_FT 1 3 TX4 .int := ⟨rfl, by decide +kernel, ⟨tyX4, tyX4_ok⟩, nmX4⟩
theorem w_157 : Cond.fieldLink RX4 19 "AshLoans$Potter" "broken" "I" ∈ lw_gd := za_gd 157 (by decide +kernel) rfl
theorem pf_X4_19 : za_FL RX4 19 4 2 3 RX4 TX4 "AshLoans$Potter" := ⟨rfl, gin_X4, by decide, w_157, rfl⟩
theorem pt_X4_2 : za_FT 2 3 TX4 .int := ⟨rfl, by decide +kernel, ⟨tyX4, tyX4_ok⟩, nmX4⟩
theorem w_173 : Cond.fieldLink RX3 7 "AshLoans$Loan" "from" "I" ∈ lw_gd := za_gd 173 (by decide +kernel) rfl
theorem pf_X3_7 : za_FL RX3 7 3 0 5 RX3 TX3 "AshLoans$Loan" := ⟨rfl, gin_X3, by decide, w_173, rfl⟩
theorem pt_X3_0 : za_FT 0 5 TX3 .int := ⟨rfl, by decide +kernel, ⟨tyX3, tyX3_ok⟩, nmX3⟩
theorem w_176 : Cond.fieldLink RX3 13 "AshLoans$Loan" "to" "I" ∈ lw_gd := za_gd 176 (by decide +kernel) rfl
theorem pf_X3_13 : za_FL RX3 13 3 1 5 RX3 TX3 "AshLoans$Loan" := ⟨rfl, gin_X3, by decide, w_176, rfl⟩
theorem pt_X3_1 : za_FT 1 5 TX3 .int := ⟨rfl, by decide +kernel, ⟨tyX3, tyX3_ok⟩, nmX3⟩
theorem w_179 : Cond.fieldLink RX3 16 "AshLoans$Loan" "ash" "I" ∈ lw_gd := za_gd 179 (by decide +kernel) rfl
theorem pf_X3_16 : za_FL RX3 16 3 2 5 RX3 TX3 "AshLoans$Loan" := ⟨rfl, gin_X3, by decide, w_179, rfl⟩
theorem pt_X3_2 : za_FT 2 5 TX3 .int := ⟨rfl, by decide +kernel, ⟨tyX3, tyX3_ok⟩, nmX3⟩
theorem w_182 : Cond.fieldLink RX3 19 "AshLoans$Loan" "bushels" "I" ∈ lw_gd := za_gd 182 (by decide +kernel) rfl
theorem pf_X3_19 : za_FL RX3 19 3 3 5 RX3 TX3 "AshLoans$Loan" := ⟨rfl, gin_X3, by decide, w_182, rfl⟩
theorem pt_X3_3 : za_FT 3 5 TX3 .int := ⟨rfl, by decide +kernel, ⟨tyX3, tyX3_ok⟩, nmX3⟩
theorem w_185 : Cond.fieldLink RX3 22 "AshLoans$Loan" "due" "I" ∈ lw_gd := za_gd 185 (by decide +kernel) rfl
theorem pf_X3_22 : za_FL RX3 22 3 4 5 RX3 TX3 "AshLoans$Loan" := ⟨rfl, gin_X3, by decide, w_185, rfl⟩
theorem pt_X3_4 : za_FT 4 5 TX3 .int := ⟨rfl, by decide +kernel, ⟨tyX3, tyX3_ok⟩, nmX3⟩
theorem w_205 : Cond.fieldLink RX1 32 "AshLoans$County" "ashCount" "I" ∈ lw_gd := za_gd 205 (by decide +kernel) rfl
theorem pf_X1_32 : za_FL RX1 32 1 3 7 RX1 TX1 "AshLoans$County" := ⟨rfl, gin_X1, by decide, w_205, rfl⟩
theorem pt_X1_3 : za_FT 3 7 TX1 .int := ⟨rfl, by decide +kernel, ⟨tyX1, tyX1_ok⟩, nmX1⟩
theorem w_207 : Cond.fieldLink RX1 36 "AshLoans$County" "potterCount" "I" ∈ lw_gd := za_gd 207 (by decide +kernel) rfl
theorem pf_X1_36 : za_FL RX1 36 1 4 7 RX1 TX1 "AshLoans$County" := ⟨rfl, gin_X1, by decide, w_207, rfl⟩
theorem pt_X1_4 : za_FT 4 7 TX1 .int := ⟨rfl, by decide +kernel, ⟨tyX1, tyX1_ok⟩, nmX1⟩
theorem w_209 : Cond.fieldLink RX1 39 "AshLoans$County" "loanCount" "I" ∈ lw_gd := za_gd 209 (by decide +kernel) rfl
theorem pf_X1_39 : za_FL RX1 39 1 5 7 RX1 TX1 "AshLoans$County" := ⟨rfl, gin_X1, by decide, w_209, rfl⟩
theorem pt_X1_5 : za_FT 5 7 TX1 .int := ⟨rfl, by decide +kernel, ⟨tyX1, tyX1_ok⟩, nmX1⟩
theorem w_211 : Cond.fieldLink RX1 42 "AshLoans$County" "day" "I" ∈ lw_gd := za_gd 211 (by decide +kernel) rfl
theorem pf_X1_42 : za_FL RX1 42 1 6 7 RX1 TX1 "AshLoans$County" := ⟨rfl, gin_X1, by decide, w_211, rfl⟩
theorem pt_X1_6 : za_FT 6 7 TX1 .int := ⟨rfl, by decide +kernel, ⟨tyX1, tyX1_ok⟩, nmX1⟩
theorem w_199 : Cond.fieldLink RX1 11 "AshLoans$County" "ashes" "[LAshLoans$Ash;" ∈ lw_gd := za_gd 199 (by decide +kernel) rfl
theorem pf_X1_11 : za_FL RX1 11 1 0 7 RX1 TX1 "AshLoans$County" := ⟨rfl, gin_X1, by decide, w_199, rfl⟩
theorem zk_n1 (x : Int32) : x + Int32.ofInt 1 = x + 1 := congrArg (x + ·) (by decide)
theorem w_201 : Cond.fieldLink RX1 19 "AshLoans$County" "potters" "[LAshLoans$Potter;" ∈ lw_gd := za_gd 201 (by decide +kernel) rfl
theorem pf_X1_19 : za_FL RX1 19 1 1 7 RX1 TX1 "AshLoans$County" := ⟨rfl, gin_X1, by decide, w_201, rfl⟩
theorem w_203 : Cond.fieldLink RX1 25 "AshLoans$County" "loans" "[LAshLoans$Loan;" ∈ lw_gd := za_gd 203 (by decide +kernel) rfl
theorem pf_X1_25 : za_FL RX1 25 1 2 7 RX1 TX1 "AshLoans$County" := ⟨rfl, gin_X1, by decide, w_203, rfl⟩
theorem w_683 : Cond.code yX3_copy cX3_copy 2 none ∈ lw_gd := za_gd 683 (by decide +kernel) rfl
theorem w_80 : Cond.initialized RX3 ∈ lw_gd := za_gd 80 (by decide +kernel) rfl
theorem py_X3_copy : za_Y yX3_copy cX3_copy 2 none 1 := ⟨w_683, w_80, by decide +kernel⟩
theorem w_680 : Cond.methodLink RX1 52 yX3_copy ∈ lw_gd := za_gd 680 (by decide +kernel) rfl
theorem w_681 : Cond.instanceMethod yX3_copy ∈ lw_gd := za_gd 681 (by decide +kernel) rfl
theorem w_682 : Cond.selects RX3 yX3_copy yX3_copy ∈ lw_gd := za_gd 682 (by decide +kernel) rfl
theorem pv_X1_52 : za_YV RX1 52 yX3_copy := ⟨w_680, w_681, w_682⟩
theorem w_678 : Cond.code yX4_copy cX4_copy 2 none ∈ lw_gd := za_gd 678 (by decide +kernel) rfl
theorem w_79 : Cond.initialized RX4 ∈ lw_gd := za_gd 79 (by decide +kernel) rfl
theorem py_X4_copy : za_Y yX4_copy cX4_copy 2 none 1 := ⟨w_678, w_79, by decide +kernel⟩
theorem w_675 : Cond.methodLink RX1 49 yX4_copy ∈ lw_gd := za_gd 675 (by decide +kernel) rfl
theorem w_676 : Cond.instanceMethod yX4_copy ∈ lw_gd := za_gd 676 (by decide +kernel) rfl
theorem w_677 : Cond.selects RX4 yX4_copy yX4_copy ∈ lw_gd := za_gd 677 (by decide +kernel) rfl
theorem pv_X1_49 : za_YV RX1 49 yX4_copy := ⟨w_675, w_676, w_677⟩
theorem w_674 : Cond.code yX0_copy cX0_copy 2 none ∈ lw_gd := za_gd 674 (by decide +kernel) rfl
theorem w_78 : Cond.initialized RX0 ∈ lw_gd := za_gd 78 (by decide +kernel) rfl
theorem py_X0_copy : za_Y yX0_copy cX0_copy 2 none 1 := ⟨w_674, w_78, by decide +kernel⟩
theorem w_671 : Cond.methodLink RX1 45 yX0_copy ∈ lw_gd := za_gd 671 (by decide +kernel) rfl
theorem w_672 : Cond.instanceMethod yX0_copy ∈ lw_gd := za_gd 672 (by decide +kernel) rfl
theorem w_673 : Cond.selects RX0 yX0_copy yX0_copy ∈ lw_gd := za_gd 673 (by decide +kernel) rfl
theorem pv_X1_45 : za_YV RX1 45 yX0_copy := ⟨w_671, w_672, w_673⟩
theorem w_393 : Cond.code yX9_within cX9_within 3 (some .boolean) ∈ lw_gd := za_gd 393 (by decide +kernel) rfl
theorem w_75 : Cond.initialized RX9 ∈ lw_gd := za_gd 75 (by decide +kernel) rfl
theorem py_X9_within : za_Y yX9_within cX9_within 3 (some .boolean) 3 := ⟨w_393, w_75, by decide +kernel⟩
theorem w_392 : Cond.static yX9_within ∈ lw_gd := za_gd 392 (by decide +kernel) rfl
theorem pn_X1_55 : za_YN RX1 55 yX9_within := ⟨by decide +kernel, w_392⟩
theorem w_152 : Cond.fieldLink RX1 59 "AshLoans$Potter" "bushels" "[I" ∈ lw_gd := za_gd 152 (by decide +kernel) rfl
theorem pf_X1_59 : za_FL RX1 59 4 0 3 RX4 TX4 "AshLoans$Potter" := ⟨rfl, gin_X4, by decide, w_152, rfl⟩
theorem w_155 : Cond.fieldLink RX1 63 "AshLoans$Potter" "pots" "I" ∈ lw_gd := za_gd 155 (by decide +kernel) rfl
theorem pf_X1_63 : za_FL RX1 63 4 1 3 RX4 TX4 "AshLoans$Potter" := ⟨rfl, gin_X4, by decide, w_155, rfl⟩
theorem w_158 : Cond.fieldLink RX1 66 "AshLoans$Potter" "broken" "I" ∈ lw_gd := za_gd 158 (by decide +kernel) rfl
theorem pf_X1_66 : za_FL RX1 66 4 2 3 RX4 TX4 "AshLoans$Potter" := ⟨rfl, gin_X4, by decide, w_158, rfl⟩
theorem w_177 : Cond.fieldLink RX1 69 "AshLoans$Loan" "to" "I" ∈ lw_gd := za_gd 177 (by decide +kernel) rfl
theorem pf_X1_69 : za_FL RX1 69 3 1 5 RX3 TX3 "AshLoans$Loan" := ⟨rfl, gin_X3, by decide, w_177, rfl⟩
theorem w_174 : Cond.fieldLink RX1 72 "AshLoans$Loan" "from" "I" ∈ lw_gd := za_gd 174 (by decide +kernel) rfl
theorem pf_X1_72 : za_FL RX1 72 3 0 5 RX3 TX3 "AshLoans$Loan" := ⟨rfl, gin_X3, by decide, w_174, rfl⟩
theorem w_183 : Cond.fieldLink RX1 75 "AshLoans$Loan" "bushels" "I" ∈ lw_gd := za_gd 183 (by decide +kernel) rfl
theorem pf_X1_75 : za_FL RX1 75 3 3 5 RX3 TX3 "AshLoans$Loan" := ⟨rfl, gin_X3, by decide, w_183, rfl⟩
theorem w_180 : Cond.fieldLink RX1 77 "AshLoans$Loan" "ash" "I" ∈ lw_gd := za_gd 180 (by decide +kernel) rfl
theorem pf_X1_77 : za_FL RX1 77 3 2 5 RX3 TX3 "AshLoans$Loan" := ⟨rfl, gin_X3, by decide, w_180, rfl⟩
theorem zk_s999 : (Int16.ofInt 999).toInt32 = 999 := by decide
theorem w_482 : Cond.code yX9_held cX9_held 2 (some .int) ∈ lw_gd := za_gd 482 (by decide +kernel) rfl
theorem py_X9_held : za_Y yX9_held cX9_held 2 (some .int) 2 := ⟨w_482, w_75, by decide +kernel⟩
theorem w_481 : Cond.static yX9_held ∈ lw_gd := za_gd 481 (by decide +kernel) rfl
theorem pn_X4_28 : za_YN RX4 28 yX9_held := ⟨by decide +kernel, w_481⟩
theorem w_186 : Cond.fieldLink RX1 80 "AshLoans$Loan" "due" "I" ∈ lw_gd := za_gd 186 (by decide +kernel) rfl
theorem pf_X1_80 : za_FL RX1 80 3 4 5 RX3 TX3 "AshLoans$Loan" := ⟨rfl, gin_X3, by decide, w_186, rfl⟩
theorem w_559 : Cond.code yX4_change cX4_change 3 none ∈ lw_gd := za_gd 559 (by decide +kernel) rfl
theorem py_X4_change : za_Y yX4_change cX4_change 3 none 2 := ⟨w_559, w_79, by decide +kernel⟩
theorem w_556 : Cond.methodLink RX1 83 yX4_change ∈ lw_gd := za_gd 556 (by decide +kernel) rfl
theorem w_557 : Cond.instanceMethod yX4_change ∈ lw_gd := za_gd 557 (by decide +kernel) rfl
theorem w_558 : Cond.selects RX4 yX4_change yX4_change ∈ lw_gd := za_gd 558 (by decide +kernel) rfl
theorem pv_X1_83 : za_YV RX1 83 yX4_change := ⟨w_556, w_557, w_558⟩
theorem w_235 : Cond.fieldLink RX2 18 "AshLoans$Law" "use" "I" ∈ lw_gd := za_gd 235 (by decide +kernel) rfl
theorem pf_X2_18 : za_FL RX2 18 2 0 4 RX2 TX2 "AshLoans$Law" := ⟨rfl, gin_X2, by decide, w_235, rfl⟩
theorem w_239 : Cond.fieldLink RX2 26 "AshLoans$Law" "size" "I" ∈ lw_gd := za_gd 239 (by decide +kernel) rfl
theorem pf_X2_26 : za_FL RX2 26 2 3 4 RX2 TX2 "AshLoans$Law" := ⟨rfl, gin_X2, by decide, w_239, rfl⟩
theorem w_236 : Cond.fieldLink RX2 9 "AshLoans$Law" "code" "[I" ∈ lw_gd := za_gd 236 (by decide +kernel) rfl
theorem pf_X2_9 : za_FL RX2 9 2 1 4 RX2 TX2 "AshLoans$Law" := ⟨rfl, gin_X2, by decide, w_236, rfl⟩
theorem zk_bm3 : (Int8.ofInt (-3)).toInt32 = (-3) := by decide
theorem w_238 : Cond.fieldLink RX2 15 "AshLoans$Law" "stack" "[I" ∈ lw_gd := za_gd 238 (by decide +kernel) rfl
theorem pf_X2_15 : za_FL RX2 15 2 2 4 RX2 TX2 "AshLoans$Law" := ⟨rfl, gin_X2, by decide, w_238, rfl⟩
theorem zk_im1 : Int32.ofInt (-1) = (-1) := by decide
theorem zk_bm2 : (Int8.ofInt (-2)).toInt32 = (-2) := by decide
theorem zk_bm33 : (Int8.ofInt (-33)).toInt32 = (-33) := by decide
theorem zk_nm1 (x : Int32) : x + Int32.ofInt (-1) = x + (-1) := congrArg (x + ·) (by decide)
theorem w_543 : Cond.code yX2_joined cX2_joined 3 (some .int) ∈ lw_gd := za_gd 543 (by decide +kernel) rfl
theorem w_81 : Cond.initialized RX2 ∈ lw_gd := za_gd 81 (by decide +kernel) rfl
theorem py_X2_joined : za_Y yX2_joined cX2_joined 3 (some .int) 3 := ⟨w_543, w_81, by decide +kernel⟩
theorem w_541 : Cond.methodLink RX2 42 yX2_joined ∈ lw_gd := za_gd 541 (by decide +kernel) rfl
theorem w_542 : Cond.static yX2_joined ∈ lw_gd := za_gd 542 (by decide +kernel) rfl
theorem ps_X2_42 : za_YS RX2 42 yX2_joined := ⟨w_541, w_542⟩
theorem zk_b99 : (Int8.ofInt 99).toInt32 = 99 := by decide
theorem w_540 : Cond.code yX2_worth cX2_worth 7 (some .int) ∈ lw_gd := za_gd 540 (by decide +kernel) rfl
theorem py_X2_worth : za_Y yX2_worth cX2_worth 7 (some .int) 3 := ⟨w_540, w_81, by decide +kernel⟩
theorem w_537 : Cond.methodLink RX2 38 yX2_worth ∈ lw_gd := za_gd 537 (by decide +kernel) rfl
theorem w_538 : Cond.instanceMethod yX2_worth ∈ lw_gd := za_gd 538 (by decide +kernel) rfl
theorem w_539 : Cond.selects RX2 yX2_worth yX2_worth ∈ lw_gd := za_gd 539 (by decide +kernel) rfl
theorem pv_X2_38 : za_YV RX2 38 yX2_worth := ⟨w_537, w_538, w_539⟩
theorem pn_X2_22 : za_YN RX2 22 yX9_held := ⟨by decide +kernel, w_481⟩
theorem w_536 : Cond.code yX2_withoutText cX2_withoutText 3 (some .int) ∈ lw_gd := za_gd 536 (by decide +kernel) rfl
theorem py_X2_withoutText : za_Y yX2_withoutText cX2_withoutText 3 (some .int) 2 := ⟨w_536, w_81, by decide +kernel⟩
theorem w_533 : Cond.methodLink RX2 35 yX2_withoutText ∈ lw_gd := za_gd 533 (by decide +kernel) rfl
theorem w_534 : Cond.instanceMethod yX2_withoutText ∈ lw_gd := za_gd 534 (by decide +kernel) rfl
theorem w_535 : Cond.selects RX2 yX2_withoutText yX2_withoutText ∈ lw_gd := za_gd 535 (by decide +kernel) rfl
theorem pv_X2_35 : za_YV RX2 35 yX2_withoutText := ⟨w_533, w_534, w_535⟩
theorem w_130 : Cond.fieldLink RX1 87 "AshLoans$Ash" "m" "I" ∈ lw_gd := za_gd 130 (by decide +kernel) rfl
theorem pf_X1_87 : za_FL RX1 87 0 1 4 RX0 TX0 "AshLoans$Ash" := ⟨rfl, gin_X0, by decide, w_130, rfl⟩
theorem w_532 : Cond.code yX2_gives cX2_gives 4 (some .int) ∈ lw_gd := za_gd 532 (by decide +kernel) rfl
theorem py_X2_gives : za_Y yX2_gives cX2_gives 4 (some .int) 3 := ⟨w_532, w_81, by decide +kernel⟩
theorem w_581 : Cond.methodLink RX1 90 yX2_gives ∈ lw_gd := za_gd 581 (by decide +kernel) rfl
theorem w_530 : Cond.instanceMethod yX2_gives ∈ lw_gd := za_gd 530 (by decide +kernel) rfl
theorem w_531 : Cond.selects RX2 yX2_gives yX2_gives ∈ lw_gd := za_gd 531 (by decide +kernel) rfl
theorem pv_X1_90 : za_YV RX1 90 yX2_gives := ⟨w_581, w_530, w_531⟩
theorem w_585 : Cond.code yX1_drop cX1_drop 4 none ∈ lw_gd := za_gd 585 (by decide +kernel) rfl
theorem w_77 : Cond.initialized RX1 ∈ lw_gd := za_gd 77 (by decide +kernel) rfl
theorem py_X1_drop : za_Y yX1_drop cX1_drop 4 none 1 := ⟨w_585, w_77, by decide +kernel⟩
theorem w_582 : Cond.methodLink RX1 96 yX1_drop ∈ lw_gd := za_gd 582 (by decide +kernel) rfl
theorem w_583 : Cond.instanceMethod yX1_drop ∈ lw_gd := za_gd 583 (by decide +kernel) rfl
theorem w_584 : Cond.selects RX1 yX1_drop yX1_drop ∈ lw_gd := za_gd 584 (by decide +kernel) rfl
theorem pv_X1_96 : za_YV RX1 96 yX1_drop := ⟨w_582, w_583, w_584⟩
theorem pn_X1_100 : za_YN RX1 100 yX9_held := ⟨by decide +kernel, w_481⟩
theorem w_136 : Cond.fieldLink RX1 111 "AshLoans$Ash" "goesTo" "I" ∈ lw_gd := za_gd 136 (by decide +kernel) rfl
theorem pf_X1_111 : za_FL RX1 111 0 3 4 RX0 TX0 "AshLoans$Ash" := ⟨rfl, gin_X0, by decide, w_136, rfl⟩
theorem w_133 : Cond.fieldLink RX1 118 "AshLoans$Ash" "growth" "I" ∈ lw_gd := za_gd 133 (by decide +kernel) rfl
theorem pf_X1_118 : za_FL RX1 118 0 2 4 RX0 TX0 "AshLoans$Ash" := ⟨rfl, gin_X0, by decide, w_133, rfl⟩
theorem w_448 : Cond.code yX1_hasPotter cX1_hasPotter 2 (some .boolean) ∈ lw_gd := za_gd 448 (by decide +kernel) rfl
theorem py_X1_hasPotter : za_Y yX1_hasPotter cX1_hasPotter 2 (some .boolean) 1 := ⟨w_448, w_77, by decide +kernel⟩
theorem w_634 : Cond.methodLink RX1 114 yX1_hasPotter ∈ lw_gd := za_gd 634 (by decide +kernel) rfl
theorem w_446 : Cond.instanceMethod yX1_hasPotter ∈ lw_gd := za_gd 446 (by decide +kernel) rfl
theorem w_447 : Cond.selects RX1 yX1_hasPotter yX1_hasPotter ∈ lw_gd := za_gd 447 (by decide +kernel) rfl
theorem pv_X1_114 : za_YV RX1 114 yX1_hasPotter := ⟨w_634, w_446, w_447⟩
theorem w_576 : Cond.code yX1_canGiveBack cX1_canGiveBack 2 (some .boolean) ∈ lw_gd := za_gd 576 (by decide +kernel) rfl
theorem py_X1_canGiveBack : za_Y yX1_canGiveBack cX1_canGiveBack 2 (some .boolean) 1 := ⟨w_576, w_77, by decide +kernel⟩
theorem w_639 : Cond.methodLink RX1 121 yX1_canGiveBack ∈ lw_gd := za_gd 639 (by decide +kernel) rfl
theorem w_574 : Cond.instanceMethod yX1_canGiveBack ∈ lw_gd := za_gd 574 (by decide +kernel) rfl
theorem w_575 : Cond.selects RX1 yX1_canGiveBack yX1_canGiveBack ∈ lw_gd := za_gd 575 (by decide +kernel) rfl
theorem pv_X1_121 : za_YV RX1 121 yX1_canGiveBack := ⟨w_639, w_574, w_575⟩
theorem w_644 : Cond.code yX1_breakOff cX1_breakOff 3 none ∈ lw_gd := za_gd 644 (by decide +kernel) rfl
theorem py_X1_breakOff : za_Y yX1_breakOff cX1_breakOff 3 none 1 := ⟨w_644, w_77, by decide +kernel⟩
theorem w_641 : Cond.methodLink RX1 129 yX1_breakOff ∈ lw_gd := za_gd 641 (by decide +kernel) rfl
theorem w_642 : Cond.instanceMethod yX1_breakOff ∈ lw_gd := za_gd 642 (by decide +kernel) rfl
theorem w_643 : Cond.selects RX1 yX1_breakOff yX1_breakOff ∈ lw_gd := za_gd 643 (by decide +kernel) rfl
theorem pv_X1_129 : za_YV RX1 129 yX1_breakOff := ⟨w_641, w_642, w_643⟩
theorem w_580 : Cond.code yX1_giveBack cX1_giveBack 5 (some .int) ∈ lw_gd := za_gd 580 (by decide +kernel) rfl
theorem py_X1_giveBack : za_Y yX1_giveBack cX1_giveBack 5 (some .int) 2 := ⟨w_580, w_77, by decide +kernel⟩
theorem w_640 : Cond.methodLink RX1 125 yX1_giveBack ∈ lw_gd := za_gd 640 (by decide +kernel) rfl
theorem w_578 : Cond.instanceMethod yX1_giveBack ∈ lw_gd := za_gd 578 (by decide +kernel) rfl
theorem w_579 : Cond.selects RX1 yX1_giveBack yX1_giveBack ∈ lw_gd := za_gd 579 (by decide +kernel) rfl
theorem pv_X1_125 : za_YV RX1 125 yX1_giveBack := ⟨w_640, w_578, w_579⟩
theorem w_633 : Cond.code yX1_growHedges cX1_growHedges 3 none ∈ lw_gd := za_gd 633 (by decide +kernel) rfl
theorem py_X1_growHedges : za_Y yX1_growHedges cX1_growHedges 3 none 0 := ⟨w_633, w_77, by decide +kernel⟩
theorem w_630 : Cond.methodLink RX1 104 yX1_growHedges ∈ lw_gd := za_gd 630 (by decide +kernel) rfl
theorem w_631 : Cond.instanceMethod yX1_growHedges ∈ lw_gd := za_gd 631 (by decide +kernel) rfl
theorem w_632 : Cond.selects RX1 yX1_growHedges yX1_growHedges ∈ lw_gd := za_gd 632 (by decide +kernel) rfl
theorem pv_X1_104 : za_YV RX1 104 yX1_growHedges := ⟨w_630, w_631, w_632⟩
theorem w_638 : Cond.code yX1_settleLoans cX1_settleLoans 5 none ∈ lw_gd := za_gd 638 (by decide +kernel) rfl
theorem py_X1_settleLoans : za_Y yX1_settleLoans cX1_settleLoans 5 none 1 := ⟨w_638, w_77, by decide +kernel⟩
theorem w_635 : Cond.methodLink RX1 107 yX1_settleLoans ∈ lw_gd := za_gd 635 (by decide +kernel) rfl
theorem w_636 : Cond.instanceMethod yX1_settleLoans ∈ lw_gd := za_gd 636 (by decide +kernel) rfl
theorem w_637 : Cond.selects RX1 yX1_settleLoans yX1_settleLoans ∈ lw_gd := za_gd 637 (by decide +kernel) rfl
theorem pv_X1_107 : za_YV RX1 107 yX1_settleLoans := ⟨w_635, w_636, w_637⟩
theorem zk_b50 : (Int8.ofInt 50).toInt32 = 50 := by decide
theorem pt_X2_3 : za_FT 3 4 TX2 .int := ⟨rfl, by decide +kernel, ⟨tyX2, tyX2_ok⟩, nmX2⟩
theorem w_524 : Cond.methodLink RX2 29 arraycopyName ∈ lw_gd := za_gd 524 (by decide +kernel) rfl
theorem zk_s9999 : (Int16.ofInt 9999).toInt32 = 9999 := by decide
theorem w_294 : Cond.fieldLink RX5 35 "AshLoans$Reader" "place" "I" ∈ lw_gd := za_gd 294 (by decide +kernel) rfl
theorem pf_X5_35 : za_FL RX5 35 5 5 6 RX5 TX5 "AshLoans$Reader" := ⟨rfl, gin_X5, by decide, w_294, rfl⟩
theorem w_290 : Cond.fieldLink RX5 22 "AshLoans$Reader" "length" "I" ∈ lw_gd := za_gd 290 (by decide +kernel) rfl
theorem pf_X5_22 : za_FL RX5 22 5 2 6 RX5 TX5 "AshLoans$Reader" := ⟨rfl, gin_X5, by decide, w_290, rfl⟩
theorem w_287 : Cond.fieldLink RX5 9 "AshLoans$Reader" "bytes" "[I" ∈ lw_gd := za_gd 287 (by decide +kernel) rfl
theorem pf_X5_9 : za_FL RX5 9 5 0 6 RX5 TX5 "AshLoans$Reader" := ⟨rfl, gin_X5, by decide, w_287, rfl⟩
theorem zk_i2 : Int32.ofInt 2 = 2 := by decide
theorem zk_i3 : Int32.ofInt 3 = 3 := by decide
theorem w_291 : Cond.fieldLink RX5 38 "AshLoans$Reader" "size" "I" ∈ lw_gd := za_gd 291 (by decide +kernel) rfl
theorem pf_X5_38 : za_FL RX5 38 5 3 6 RX5 TX5 "AshLoans$Reader" := ⟨rfl, gin_X5, by decide, w_291, rfl⟩
theorem w_288 : Cond.fieldLink RX5 15 "AshLoans$Reader" "code" "[I" ∈ lw_gd := za_gd 288 (by decide +kernel) rfl
theorem pf_X5_15 : za_FL RX5 15 5 1 6 RX5 TX5 "AshLoans$Reader" := ⟨rfl, gin_X5, by decide, w_288, rfl⟩
theorem pt_X5_3 : za_FT 3 6 TX5 .int := ⟨rfl, by decide +kernel, ⟨tyX5, tyX5_ok⟩, nmX5⟩
theorem zk_b48 : (Int8.ofInt 48).toInt32 = 48 := by decide
theorem zk_b57 : (Int8.ofInt 57).toInt32 = 57 := by decide
theorem pn_X5_75 : za_YN RX5 75 yX9_within := ⟨by decide +kernel, w_392⟩
theorem pt_X5_5 : za_FT 5 6 TX5 .int := ⟨rfl, by decide +kernel, ⟨tyX5, tyX5_ok⟩, nmX5⟩
theorem w_509 : Cond.code yX5_add cX5_add 2 none ∈ lw_gd := za_gd 509 (by decide +kernel) rfl
theorem w_82 : Cond.initialized RX5 ∈ lw_gd := za_gd 82 (by decide +kernel) rfl
theorem py_X5_add : za_Y yX5_add cX5_add 2 none 1 := ⟨w_509, w_82, by decide +kernel⟩
theorem w_506 : Cond.methodLink RX5 57 yX5_add ∈ lw_gd := za_gd 506 (by decide +kernel) rfl
theorem w_508 : Cond.instanceMethod yX5_add ∈ lw_gd := za_gd 508 (by decide +kernel) rfl
theorem w_s5 : Cond.selects RX5 yX5_add yX5_add ∈ lw_gd := za_gd 5 (by decide +kernel) rfl
theorem pv_X5_57 : za_YV RX5 57 yX5_add := ⟨w_506, w_508, w_s5⟩
theorem w_497 : Cond.code yX5_next cX5_next 1 (some .int) ∈ lw_gd := za_gd 497 (by decide +kernel) rfl
theorem py_X5_next : za_Y yX5_next cX5_next 1 (some .int) 0 := ⟨w_497, w_82, by decide +kernel⟩
theorem w_494 : Cond.methodLink RX5 49 yX5_next ∈ lw_gd := za_gd 494 (by decide +kernel) rfl
theorem w_496 : Cond.instanceMethod yX5_next ∈ lw_gd := za_gd 496 (by decide +kernel) rfl
theorem w_s3 : Cond.selects RX5 yX5_next yX5_next ∈ lw_gd := za_gd 3 (by decide +kernel) rfl
theorem pv_X5_49 : za_YV RX5 49 yX5_next := ⟨w_494, w_496, w_s3⟩
theorem w_500 : Cond.code yX5_isDigit cX5_isDigit 1 (some .boolean) ∈ lw_gd := za_gd 500 (by decide +kernel) rfl
theorem py_X5_isDigit : za_Y yX5_isDigit cX5_isDigit 1 (some .boolean) 1 := ⟨w_500, w_82, by decide +kernel⟩
theorem w_498 : Cond.methodLink RX5 61 yX5_isDigit ∈ lw_gd := za_gd 498 (by decide +kernel) rfl
theorem w_499 : Cond.static yX5_isDigit ∈ lw_gd := za_gd 499 (by decide +kernel) rfl
theorem ps_X5_61 : za_YS RX5 61 yX5_isDigit := ⟨w_498, w_499⟩
theorem w_293 : Cond.fieldLink RX5 32 "AshLoans$Reader" "use" "I" ∈ lw_gd := za_gd 293 (by decide +kernel) rfl
theorem pf_X5_32 : za_FL RX5 32 5 4 6 RX5 TX5 "AshLoans$Reader" := ⟨rfl, gin_X5, by decide, w_293, rfl⟩
theorem zk_b33 : (Int8.ofInt 33).toInt32 = 33 := by decide
theorem zk_b40 : (Int8.ofInt 40).toInt32 = 40 := by decide
theorem zk_b41 : (Int8.ofInt 41).toInt32 = 41 := by decide
theorem w_518 : Cond.code yX5_levelOf cX5_levelOf 1 (some .int) ∈ lw_gd := za_gd 518 (by decide +kernel) rfl
theorem py_X5_levelOf : za_Y yX5_levelOf cX5_levelOf 1 (some .int) 1 := ⟨w_518, w_82, by decide +kernel⟩
theorem w_516 : Cond.methodLink RX5 53 yX5_levelOf ∈ lw_gd := za_gd 516 (by decide +kernel) rfl
theorem w_517 : Cond.static yX5_levelOf ∈ lw_gd := za_gd 517 (by decide +kernel) rfl
theorem ps_X5_53 : za_YS RX5 53 yX5_levelOf := ⟨w_516, w_517⟩
theorem w_489 : Cond.code yX5_readLevel cX5_readLevel 6 (some .boolean) ∈ lw_gd := za_gd 489 (by decide +kernel) rfl
theorem py_X5_readLevel : za_Y yX5_readLevel cX5_readLevel 6 (some .boolean) 2 := ⟨w_489, w_82, by decide +kernel⟩
theorem w_486 : Cond.methodLink RX5 41 yX5_readLevel ∈ lw_gd := za_gd 486 (by decide +kernel) rfl
theorem w_488 : Cond.instanceMethod yX5_readLevel ∈ lw_gd := za_gd 488 (by decide +kernel) rfl
theorem w_s1 : Cond.selects RX5 yX5_readLevel yX5_readLevel ∈ lw_gd := za_gd 1 (by decide +kernel) rfl
theorem pv_X5_41 : za_YV RX5 41 yX5_readLevel := ⟨w_486, w_488, w_s1⟩
theorem w_493 : Cond.code yX5_readPart cX5_readPart 4 (some .boolean) ∈ lw_gd := za_gd 493 (by decide +kernel) rfl
theorem py_X5_readPart : za_Y yX5_readPart cX5_readPart 4 (some .boolean) 1 := ⟨w_493, w_82, by decide +kernel⟩
theorem w_490 : Cond.methodLink RX5 45 yX5_readPart ∈ lw_gd := za_gd 490 (by decide +kernel) rfl
theorem w_492 : Cond.instanceMethod yX5_readPart ∈ lw_gd := za_gd 492 (by decide +kernel) rfl
theorem w_s2 : Cond.selects RX5 yX5_readPart yX5_readPart ∈ lw_gd := za_gd 2 (by decide +kernel) rfl
theorem pv_X5_45 : za_YV RX5 45 yX5_readPart := ⟨w_490, w_492, w_s2⟩
theorem w_513 : Cond.code yX5_readName cX5_readName 3 (some .boolean) ∈ lw_gd := za_gd 513 (by decide +kernel) rfl
theorem py_X5_readName : za_Y yX5_readName cX5_readName 3 (some .boolean) 1 := ⟨w_513, w_82, by decide +kernel⟩
theorem w_510 : Cond.methodLink RX5 68 yX5_readName ∈ lw_gd := za_gd 510 (by decide +kernel) rfl
theorem w_512 : Cond.instanceMethod yX5_readName ∈ lw_gd := za_gd 512 (by decide +kernel) rfl
theorem w_s6 : Cond.selects RX5 yX5_readName yX5_readName ∈ lw_gd := za_gd 6 (by decide +kernel) rfl
theorem pv_X5_68 : za_YV RX5 68 yX5_readName := ⟨w_510, w_512, w_s6⟩
theorem w_505 : Cond.code yX5_readNumber cX5_readNumber 3 (some .boolean) ∈ lw_gd := za_gd 505 (by decide +kernel) rfl
theorem py_X5_readNumber : za_Y yX5_readNumber cX5_readNumber 3 (some .boolean) 0 := ⟨w_505, w_82, by decide +kernel⟩
theorem w_502 : Cond.methodLink RX5 64 yX5_readNumber ∈ lw_gd := za_gd 502 (by decide +kernel) rfl
theorem w_504 : Cond.instanceMethod yX5_readNumber ∈ lw_gd := za_gd 504 (by decide +kernel) rfl
theorem w_s4 : Cond.selects RX5 yX5_readNumber yX5_readNumber ∈ lw_gd := za_gd 4 (by decide +kernel) rfl
theorem pv_X5_64 : za_YV RX5 64 yX5_readNumber := ⟨w_502, w_504, w_s4⟩
theorem pt_X5_2 : za_FT 2 6 TX5 .int := ⟨rfl, by decide +kernel, ⟨tyX5, tyX5_ok⟩, nmX5⟩
theorem w_483 : Cond.methodLink RX5 26 arraycopyName ∈ lw_gd := za_gd 483 (by decide +kernel) rfl
theorem pt_X5_4 : za_FT 4 6 TX5 .int := ⟨rfl, by decide +kernel, ⟨tyX5, tyX5_ok⟩, nmX5⟩
theorem pn_X5_18 : za_YN RX5 18 yX9_held := ⟨by decide +kernel, w_481⟩
theorem w_342 : Cond.fieldLink RX6 15 "AshLoans$Sheet" "bits" "I" ∈ lw_gd := za_gd 342 (by decide +kernel) rfl
theorem pf_X6_15 : za_FL RX6 15 6 1 3 RX6 TX6 "AshLoans$Sheet" := ⟨rfl, gin_X6, by decide, w_342, rfl⟩
theorem pt_X6_1 : za_FT 1 3 TX6 .int := ⟨rfl, by decide +kernel, ⟨tyX6, tyX6_ok⟩, nmX6⟩
theorem w_344 : Cond.fieldLink RX6 23 "AshLoans$Sheet" "size" "I" ∈ lw_gd := za_gd 344 (by decide +kernel) rfl
theorem pf_X6_23 : za_FL RX6 23 6 2 3 RX6 TX6 "AshLoans$Sheet" := ⟨rfl, gin_X6, by decide, w_344, rfl⟩
theorem pt_X6_2 : za_FT 2 3 TX6 .int := ⟨rfl, by decide +kernel, ⟨tyX6, tyX6_ok⟩, nmX6⟩
theorem w_340 : Cond.fieldLink RX6 9 "AshLoans$Sheet" "numbers" "[I" ∈ lw_gd := za_gd 340 (by decide +kernel) rfl
theorem pf_X6_9 : za_FL RX6 9 6 0 3 RX6 TX6 "AshLoans$Sheet" := ⟨rfl, gin_X6, by decide, w_340, rfl⟩
theorem pn_X6_19 : za_YN RX6 19 yX9_held := ⟨by decide +kernel, w_481⟩
theorem zk_b16 : (Int8.ofInt 16).toInt32 = 16 := by decide
theorem w_250 : Cond.fieldLink RX7 12 "AshLoans$State" "county" "LAshLoans$County;" ∈ lw_gd := za_gd 250 (by decide +kernel) rfl
theorem pf_X7_12 : za_FL RX7 12 7 0 7 RX7 TX7 "AshLoans$State" := ⟨rfl, gin_X7, by decide, w_250, rfl⟩
theorem w_252 : Cond.fieldLink RX7 20 "AshLoans$State" "laws" "[LAshLoans$Law;" ∈ lw_gd := za_gd 252 (by decide +kernel) rfl
theorem pf_X7_20 : za_FL RX7 20 7 1 7 RX7 TX7 "AshLoans$State" := ⟨rfl, gin_X7, by decide, w_252, rfl⟩
theorem w_237 : Cond.fieldLink RX7 42 "AshLoans$Law" "code" "[I" ∈ lw_gd := za_gd 237 (by decide +kernel) rfl
theorem pf_X7_42 : za_FL RX7 42 2 1 4 RX2 TX2 "AshLoans$Law" := ⟨rfl, gin_X2, by decide, w_237, rfl⟩
theorem w_240 : Cond.fieldLink RX7 45 "AshLoans$Law" "size" "I" ∈ lw_gd := za_gd 240 (by decide +kernel) rfl
theorem pf_X7_45 : za_FL RX7 45 2 3 4 RX2 TX2 "AshLoans$Law" := ⟨rfl, gin_X2, by decide, w_240, rfl⟩
theorem w_254 : Cond.fieldLink RX7 24 "AshLoans$State" "tape" "[I" ∈ lw_gd := za_gd 254 (by decide +kernel) rfl
theorem pf_X7_24 : za_FL RX7 24 7 2 7 RX7 TX7 "AshLoans$State" := ⟨rfl, gin_X7, by decide, w_254, rfl⟩
theorem w_854 : Cond.methodLink RX7 52 arraycopyName ∈ lw_gd := za_gd 854 (by decide +kernel) rfl
theorem w_256 : Cond.fieldLink RX7 28 "AshLoans$State" "waiting" "[I" ∈ lw_gd := za_gd 256 (by decide +kernel) rfl
theorem pf_X7_28 : za_FL RX7 28 7 3 7 RX7 TX7 "AshLoans$State" := ⟨rfl, gin_X7, by decide, w_256, rfl⟩
theorem zk_b20 : (Int8.ofInt 20).toInt32 = 20 := by decide
theorem w_258 : Cond.fieldLink RX7 58 "AshLoans$State" "tapeCount" "I" ∈ lw_gd := za_gd 258 (by decide +kernel) rfl
theorem pf_X7_58 : za_FL RX7 58 7 4 7 RX7 TX7 "AshLoans$State" := ⟨rfl, gin_X7, by decide, w_258, rfl⟩
theorem pt_X7_4 : za_FT 4 7 TX7 .int := ⟨rfl, by decide +kernel, ⟨tyX7, tyX7_ok⟩, nmX7⟩
theorem w_260 : Cond.fieldLink RX7 61 "AshLoans$State" "waitingCount" "I" ∈ lw_gd := za_gd 260 (by decide +kernel) rfl
theorem pf_X7_61 : za_FL RX7 61 7 5 7 RX7 TX7 "AshLoans$State" := ⟨rfl, gin_X7, by decide, w_260, rfl⟩
theorem pt_X7_5 : za_FT 5 7 TX7 .int := ⟨rfl, by decide +kernel, ⟨tyX7, tyX7_ok⟩, nmX7⟩
theorem w_262 : Cond.fieldLink RX7 31 "AshLoans$State" "z" "I" ∈ lw_gd := za_gd 262 (by decide +kernel) rfl
theorem pf_X7_31 : za_FL RX7 31 7 6 7 RX7 TX7 "AshLoans$State" := ⟨rfl, gin_X7, by decide, w_262, rfl⟩
theorem pt_X7_6 : za_FT 6 7 TX7 .int := ⟨rfl, by decide +kernel, ⟨tyX7, tyX7_ok⟩, nmX7⟩
theorem w_522 : Cond.code yX2_take cX2_take 3 none ∈ lw_gd := za_gd 522 (by decide +kernel) rfl
theorem py_X2_take : za_Y yX2_take cX2_take 3 none 2 := ⟨w_522, w_81, by decide +kernel⟩
theorem w_853 : Cond.methodLink RX7 48 yX2_take ∈ lw_gd := za_gd 853 (by decide +kernel) rfl
theorem w_520 : Cond.instanceMethod yX2_take ∈ lw_gd := za_gd 520 (by decide +kernel) rfl
theorem w_521 : Cond.selects RX2 yX2_take yX2_take ∈ lw_gd := za_gd 521 (by decide +kernel) rfl
theorem pv_X7_48 : za_YV RX7 48 yX2_take := ⟨w_853, w_520, w_521⟩
theorem w_670 : Cond.code yX1_copy cX1_copy 3 none ∈ lw_gd := za_gd 670 (by decide +kernel) rfl
theorem py_X1_copy : za_Y yX1_copy cX1_copy 3 none 1 := ⟨w_670, w_77, by decide +kernel⟩
theorem w_852 : Cond.methodLink RX7 38 yX1_copy ∈ lw_gd := za_gd 852 (by decide +kernel) rfl
theorem w_668 : Cond.instanceMethod yX1_copy ∈ lw_gd := za_gd 668 (by decide +kernel) rfl
theorem w_669 : Cond.selects RX1 yX1_copy yX1_copy ∈ lw_gd := za_gd 669 (by decide +kernel) rfl
theorem pv_X7_38 : za_YV RX7 38 yX1_copy := ⟨w_852, w_668, w_669⟩
theorem w_317 : Cond.fieldLink RX8 29 "AshLoans$Voices" "traced" "I" ∈ lw_gd := za_gd 317 (by decide +kernel) rfl
theorem pf_X8_29 : za_FL RX8 29 8 1 5 RX8 TX8 "AshLoans$Voices" := ⟨rfl, gin_X8, by decide, w_317, rfl⟩
theorem w_315 : Cond.fieldLink RX8 9 "AshLoans$Voices" "bodies" "[I" ∈ lw_gd := za_gd 315 (by decide +kernel) rfl
theorem pf_X8_9 : za_FL RX8 9 8 0 5 RX8 TX8 "AshLoans$Voices" := ⟨rfl, gin_X8, by decide, w_315, rfl⟩
theorem pt_X8_1 : za_FT 1 5 TX8 .int := ⟨rfl, by decide +kernel, ⟨tyX8, tyX8_ok⟩, nmX8⟩
theorem w_319 : Cond.fieldLink RX8 21 "AshLoans$Voices" "kind" "I" ∈ lw_gd := za_gd 319 (by decide +kernel) rfl
theorem pf_X8_21 : za_FL RX8 21 8 2 5 RX8 TX8 "AshLoans$Voices" := ⟨rfl, gin_X8, by decide, w_319, rfl⟩
theorem zk_b7 : (Int8.ofInt 7).toInt32 = 7 := by decide
theorem w_791 : Cond.fieldLink RX8 47 "AshLoans$Voices" "BODIES" "[I" ∈ lw_gd := za_gd 791 (by decide +kernel) rfl
theorem w_320 : Cond.fieldLink RX8 26 "AshLoans$Voices" "n" "I" ∈ lw_gd := za_gd 320 (by decide +kernel) rfl
theorem pf_X8_26 : za_FL RX8 26 8 3 5 RX8 TX8 "AshLoans$Voices" := ⟨rfl, gin_X8, by decide, w_320, rfl⟩
theorem w_321 : Cond.fieldLink RX8 25 "AshLoans$Voices" "m" "I" ∈ lw_gd := za_gd 321 (by decide +kernel) rfl
theorem pf_X8_25 : za_FL RX8 25 8 4 5 RX8 TX8 "AshLoans$Voices" := ⟨rfl, gin_X8, by decide, w_321, rfl⟩
theorem w_789 : Cond.code yX8_from cX8_from 8 (some .int) ∈ lw_gd := za_gd 789 (by decide +kernel) rfl
theorem w_83 : Cond.initialized RX8 ∈ lw_gd := za_gd 83 (by decide +kernel) rfl
theorem py_X8_from : za_Y yX8_from cX8_from 8 (some .int) 4 := ⟨w_789, w_83, by decide +kernel⟩
theorem w_786 : Cond.methodLink RX8 36 yX8_from ∈ lw_gd := za_gd 786 (by decide +kernel) rfl
theorem w_788 : Cond.instanceMethod yX8_from ∈ lw_gd := za_gd 788 (by decide +kernel) rfl
theorem w_s20 : Cond.selects RX8 yX8_from yX8_from ∈ lw_gd := za_gd 20 (by decide +kernel) rfl
theorem pv_X8_36 : za_YV RX8 36 yX8_from := ⟨w_786, w_788, w_s20⟩
theorem pn_X8_43 : za_YN RX8 43 yX9_within := ⟨by decide +kernel, w_392⟩
theorem w_796 : Cond.code yX8_speakBody cX8_speakBody 4 (some .int) ∈ lw_gd := za_gd 796 (by decide +kernel) rfl
theorem py_X8_speakBody : za_Y yX8_speakBody cX8_speakBody 4 (some .int) 3 := ⟨w_796, w_83, by decide +kernel⟩
theorem w_793 : Cond.methodLink RX8 50 yX8_speakBody ∈ lw_gd := za_gd 793 (by decide +kernel) rfl
theorem w_795 : Cond.instanceMethod yX8_speakBody ∈ lw_gd := za_gd 795 (by decide +kernel) rfl
theorem w_s21 : Cond.selects RX8 yX8_speakBody yX8_speakBody ∈ lw_gd := za_gd 21 (by decide +kernel) rfl
theorem pv_X8_50 : za_YV RX8 50 yX8_speakBody := ⟨w_793, w_795, w_s21⟩
theorem w_800 : Cond.code yX8_note cX8_note 2 none ∈ lw_gd := za_gd 800 (by decide +kernel) rfl
theorem py_X8_note : za_Y yX8_note cX8_note 2 none 1 := ⟨w_800, w_83, by decide +kernel⟩
theorem w_797 : Cond.methodLink RX8 53 yX8_note ∈ lw_gd := za_gd 797 (by decide +kernel) rfl
theorem w_799 : Cond.instanceMethod yX8_note ∈ lw_gd := za_gd 799 (by decide +kernel) rfl
theorem w_s22 : Cond.selects RX8 yX8_note yX8_note ∈ lw_gd := za_gd 22 (by decide +kernel) rfl
theorem pv_X8_53 : za_YV RX8 53 yX8_note := ⟨w_797, w_799, w_s22⟩
theorem w_785 : Cond.code yX8_own cX8_own 4 (some .int) ∈ lw_gd := za_gd 785 (by decide +kernel) rfl
theorem py_X8_own : za_Y yX8_own cX8_own 4 (some .int) 3 := ⟨w_785, w_83, by decide +kernel⟩
theorem w_782 : Cond.methodLink RX8 32 yX8_own ∈ lw_gd := za_gd 782 (by decide +kernel) rfl
theorem w_784 : Cond.instanceMethod yX8_own ∈ lw_gd := za_gd 784 (by decide +kernel) rfl
theorem w_s19 : Cond.selects RX8 yX8_own yX8_own ∈ lw_gd := za_gd 19 (by decide +kernel) rfl
theorem pv_X8_32 : za_YV RX8 32 yX8_own := ⟨w_782, w_784, w_s19⟩
theorem w_804 : Cond.code yX8_above cX8_above 5 (some .int) ∈ lw_gd := za_gd 804 (by decide +kernel) rfl
theorem py_X8_above : za_Y yX8_above cX8_above 5 (some .int) 4 := ⟨w_804, w_83, by decide +kernel⟩
theorem w_801 : Cond.methodLink RX8 57 yX8_above ∈ lw_gd := za_gd 801 (by decide +kernel) rfl
theorem w_803 : Cond.instanceMethod yX8_above ∈ lw_gd := za_gd 803 (by decide +kernel) rfl
theorem w_s23 : Cond.selects RX8 yX8_above yX8_above ∈ lw_gd := za_gd 23 (by decide +kernel) rfl
theorem pv_X8_57 : za_YV RX8 57 yX8_above := ⟨w_801, w_803, w_s23⟩
theorem w_124 : Cond.fieldLink RX8 15 "AshLoans$Ash" "kind" "I" ∈ lw_gd := za_gd 124 (by decide +kernel) rfl
theorem pf_X8_15 : za_FL RX8 15 0 0 4 RX0 TX0 "AshLoans$Ash" := ⟨rfl, gin_X0, by decide, w_124, rfl⟩
theorem pt_X8_2 : za_FT 2 5 TX8 .int := ⟨rfl, by decide +kernel, ⟨tyX8, tyX8_ok⟩, nmX8⟩
theorem w_127 : Cond.fieldLink RX8 22 "AshLoans$Ash" "m" "I" ∈ lw_gd := za_gd 127 (by decide +kernel) rfl
theorem pf_X8_22 : za_FL RX8 22 0 1 4 RX0 TX0 "AshLoans$Ash" := ⟨rfl, gin_X0, by decide, w_127, rfl⟩
theorem pt_X8_4 : za_FT 4 5 TX8 .int := ⟨rfl, by decide +kernel, ⟨tyX8, tyX8_ok⟩, nmX8⟩
theorem pt_X8_3 : za_FT 3 5 TX8 .int := ⟨rfl, by decide +kernel, ⟨tyX8, tyX8_ok⟩, nmX8⟩
theorem zk_b69 : (Int8.ofInt 69).toInt32 = 69 := by decide
theorem w_391 : Cond.methodLink RX9 100 yX9_within ∈ lw_gd := za_gd 391 (by decide +kernel) rfl
theorem ps_X9_100 : za_YS RX9 100 yX9_within := ⟨w_391, w_392⟩
theorem w_359 : Cond.fieldLink RX9 46 "AshLoans" "errors" "[I" ∈ lw_gd := za_gd 359 (by decide +kernel) rfl
theorem pf_X9_46 : za_FL RX9 46 9 6 10 RX9 TX9 "AshLoans" := ⟨rfl, gin_X9, by decide, w_359, rfl⟩
theorem w_398 : Cond.constant RX9 339 (-1000000000) ∈ lw_gd := za_gd 398 (by decide +kernel) rfl
theorem w_353 : Cond.fieldLink RX9 10 "AshLoans" "now" "LAshLoans$State;" ∈ lw_gd := za_gd 353 (by decide +kernel) rfl
theorem pf_X9_10 : za_FL RX9 10 9 0 10 RX9 TX9 "AshLoans" := ⟨rfl, gin_X9, by decide, w_353, rfl⟩
theorem w_251 : Cond.fieldLink RX9 57 "AshLoans$State" "county" "LAshLoans$County;" ∈ lw_gd := za_gd 251 (by decide +kernel) rfl
theorem pf_X9_57 : za_FL RX9 57 7 0 7 RX7 TX7 "AshLoans$State" := ⟨rfl, gin_X7, by decide, w_251, rfl⟩
theorem w_206 : Cond.fieldLink RX9 68 "AshLoans$County" "ashCount" "I" ∈ lw_gd := za_gd 206 (by decide +kernel) rfl
theorem pf_X9_68 : za_FL RX9 68 1 3 7 RX1 TX1 "AshLoans$County" := ⟨rfl, gin_X1, by decide, w_206, rfl⟩
theorem w_200 : Cond.fieldLink RX9 72 "AshLoans$County" "ashes" "[LAshLoans$Ash;" ∈ lw_gd := za_gd 200 (by decide +kernel) rfl
theorem pf_X9_72 : za_FL RX9 72 1 0 7 RX1 TX1 "AshLoans$County" := ⟨rfl, gin_X1, by decide, w_200, rfl⟩
theorem w_390 : Cond.code yX9_isKindAndNumber cX9_isKindAndNumber 1 (some .boolean) ∈ lw_gd := za_gd 390 (by decide +kernel) rfl
theorem py_X9_isKindAndNumber : za_Y yX9_isKindAndNumber cX9_isKindAndNumber 1 (some .boolean) 1 := ⟨w_390, w_75, by decide +kernel⟩
theorem w_388 : Cond.methodLink RX9 60 yX9_isKindAndNumber ∈ lw_gd := za_gd 388 (by decide +kernel) rfl
theorem w_389 : Cond.static yX9_isKindAndNumber ∈ lw_gd := za_gd 389 (by decide +kernel) rfl
theorem ps_X9_60 : za_YS RX9 60 yX9_isKindAndNumber := ⟨w_388, w_389⟩
theorem w_402 : Cond.code yX0_begin cX0_begin 2 none ∈ lw_gd := za_gd 402 (by decide +kernel) rfl
theorem py_X0_begin : za_Y yX0_begin cX0_begin 2 none 1 := ⟨w_402, w_78, by decide +kernel⟩
theorem w_399 : Cond.methodLink RX9 76 yX0_begin ∈ lw_gd := za_gd 399 (by decide +kernel) rfl
theorem w_400 : Cond.instanceMethod yX0_begin ∈ lw_gd := za_gd 400 (by decide +kernel) rfl
theorem w_401 : Cond.selects RX0 yX0_begin yX0_begin ∈ lw_gd := za_gd 401 (by decide +kernel) rfl
theorem pv_X9_76 : za_YV RX9 76 yX0_begin := ⟨w_399, w_400, w_401⟩
theorem w_397 : Cond.code yX9_fail cX9_fail 2 (some .int) ∈ lw_gd := za_gd 397 (by decide +kernel) rfl
theorem py_X9_fail : za_Y yX9_fail cX9_fail 2 (some .int) 1 := ⟨w_397, w_75, by decide +kernel⟩
theorem w_394 : Cond.methodLink RX9 64 yX9_fail ∈ lw_gd := za_gd 394 (by decide +kernel) rfl
theorem w_396 : Cond.instanceMethod yX9_fail ∈ lw_gd := za_gd 396 (by decide +kernel) rfl
theorem w_s0 : Cond.selects RX9 yX9_fail yX9_fail ∈ lw_gd := za_gd 0 (by decide +kernel) rfl
theorem pv_X9_64 : za_YV RX9 64 yX9_fail := ⟨w_394, w_396, w_s0⟩
theorem w_135 : Cond.fieldLink RX9 94 "AshLoans$Ash" "goesTo" "I" ∈ lw_gd := za_gd 135 (by decide +kernel) rfl
theorem pf_X9_94 : za_FL RX9 94 0 3 4 RX0 TX0 "AshLoans$Ash" := ⟨rfl, gin_X0, by decide, w_135, rfl⟩
theorem w_132 : Cond.fieldLink RX9 91 "AshLoans$Ash" "growth" "I" ∈ lw_gd := za_gd 132 (by decide +kernel) rfl
theorem pf_X9_91 : za_FL RX9 91 0 2 4 RX0 TX0 "AshLoans$Ash" := ⟨rfl, gin_X0, by decide, w_132, rfl⟩
theorem w_129 : Cond.fieldLink RX9 88 "AshLoans$Ash" "m" "I" ∈ lw_gd := za_gd 129 (by decide +kernel) rfl
theorem pf_X9_88 : za_FL RX9 88 0 1 4 RX0 TX0 "AshLoans$Ash" := ⟨rfl, gin_X0, by decide, w_129, rfl⟩
theorem w_126 : Cond.fieldLink RX9 85 "AshLoans$Ash" "kind" "I" ∈ lw_gd := za_gd 126 (by decide +kernel) rfl
theorem pf_X9_85 : za_FL RX9 85 0 0 4 RX0 TX0 "AshLoans$Ash" := ⟨rfl, gin_X0, by decide, w_126, rfl⟩
theorem w_410 : Cond.code yX1_hasAsh cX1_hasAsh 2 (some .boolean) ∈ lw_gd := za_gd 410 (by decide +kernel) rfl
theorem py_X1_hasAsh : za_Y yX1_hasAsh cX1_hasAsh 2 (some .boolean) 1 := ⟨w_410, w_77, by decide +kernel⟩
theorem w_407 : Cond.methodLink RX9 82 yX1_hasAsh ∈ lw_gd := za_gd 407 (by decide +kernel) rfl
theorem w_408 : Cond.instanceMethod yX1_hasAsh ∈ lw_gd := za_gd 408 (by decide +kernel) rfl
theorem w_409 : Cond.selects RX1 yX1_hasAsh yX1_hasAsh ∈ lw_gd := za_gd 409 (by decide +kernel) rfl
theorem pv_X9_82 : za_YV RX9 82 yX1_hasAsh := ⟨w_407, w_408, w_409⟩
theorem w_415 : Cond.code yX1_bushelsOfAll cX1_bushelsOfAll 4 (some .int) ∈ lw_gd := za_gd 415 (by decide +kernel) rfl
theorem py_X1_bushelsOfAll : za_Y yX1_bushelsOfAll cX1_bushelsOfAll 4 (some .int) 1 := ⟨w_415, w_77, by decide +kernel⟩
theorem w_412 : Cond.methodLink RX9 97 yX1_bushelsOfAll ∈ lw_gd := za_gd 412 (by decide +kernel) rfl
theorem w_413 : Cond.instanceMethod yX1_bushelsOfAll ∈ lw_gd := za_gd 413 (by decide +kernel) rfl
theorem w_414 : Cond.selects RX1 yX1_bushelsOfAll yX1_bushelsOfAll ∈ lw_gd := za_gd 414 (by decide +kernel) rfl
theorem pv_X9_97 : za_YV RX9 97 yX1_bushelsOfAll := ⟨w_412, w_413, w_414⟩
theorem zk_b9 : (Int8.ofInt 9).toInt32 = 9 := by decide
theorem w_431 : Cond.fieldLink RX9 343 "AshLoans" "ABOVE" "[I" ∈ lw_gd := za_gd 431 (by decide +kernel) rfl
theorem w_430 : Cond.code yX9_isUnder cX9_isUnder 4 (some .boolean) ∈ lw_gd := za_gd 430 (by decide +kernel) rfl
theorem py_X9_isUnder : za_Y yX9_isUnder cX9_isUnder 4 (some .boolean) 2 := ⟨w_430, w_75, by decide +kernel⟩
theorem w_428 : Cond.methodLink RX9 104 yX9_isUnder ∈ lw_gd := za_gd 428 (by decide +kernel) rfl
theorem w_429 : Cond.static yX9_isUnder ∈ lw_gd := za_gd 429 (by decide +kernel) rfl
theorem ps_X9_104 : za_YS RX9 104 yX9_isUnder := ⟨w_428, w_429⟩
theorem w_208 : Cond.fieldLink RX9 108 "AshLoans$County" "potterCount" "I" ∈ lw_gd := za_gd 208 (by decide +kernel) rfl
theorem pf_X9_108 : za_FL RX9 108 1 4 7 RX1 TX1 "AshLoans$County" := ⟨rfl, gin_X1, by decide, w_208, rfl⟩
theorem w_202 : Cond.fieldLink RX9 111 "AshLoans$County" "potters" "[LAshLoans$Potter;" ∈ lw_gd := za_gd 202 (by decide +kernel) rfl
theorem pf_X9_111 : za_FL RX9 111 1 1 7 RX1 TX1 "AshLoans$County" := ⟨rfl, gin_X1, by decide, w_202, rfl⟩
theorem w_440 : Cond.code yX4_begin cX4_begin 2 none ∈ lw_gd := za_gd 440 (by decide +kernel) rfl
theorem py_X4_begin : za_Y yX4_begin cX4_begin 2 none 0 := ⟨w_440, w_79, by decide +kernel⟩
theorem w_437 : Cond.methodLink RX9 115 yX4_begin ∈ lw_gd := za_gd 437 (by decide +kernel) rfl
theorem w_438 : Cond.instanceMethod yX4_begin ∈ lw_gd := za_gd 438 (by decide +kernel) rfl
theorem w_439 : Cond.selects RX4 yX4_begin yX4_begin ∈ lw_gd := za_gd 439 (by decide +kernel) rfl
theorem pv_X9_115 : za_YV RX9 115 yX4_begin := ⟨w_437, w_438, w_439⟩
theorem w_159 : Cond.fieldLink RX9 125 "AshLoans$Potter" "broken" "I" ∈ lw_gd := za_gd 159 (by decide +kernel) rfl
theorem pf_X9_125 : za_FL RX9 125 4 2 3 RX4 TX4 "AshLoans$Potter" := ⟨rfl, gin_X4, by decide, w_159, rfl⟩
theorem w_156 : Cond.fieldLink RX9 122 "AshLoans$Potter" "pots" "I" ∈ lw_gd := za_gd 156 (by decide +kernel) rfl
theorem pf_X9_122 : za_FL RX9 122 4 1 3 RX4 TX4 "AshLoans$Potter" := ⟨rfl, gin_X4, by decide, w_156, rfl⟩
theorem w_445 : Cond.methodLink RX9 119 yX1_hasPotter ∈ lw_gd := za_gd 445 (by decide +kernel) rfl
theorem pv_X9_119 : za_YV RX9 119 yX1_hasPotter := ⟨w_445, w_446, w_447⟩
theorem w_452 : Cond.code yX1_loansHeldBy cX1_loansHeldBy 4 (some .int) ∈ lw_gd := za_gd 452 (by decide +kernel) rfl
theorem py_X1_loansHeldBy : za_Y yX1_loansHeldBy cX1_loansHeldBy 4 (some .int) 1 := ⟨w_452, w_77, by decide +kernel⟩
theorem w_449 : Cond.methodLink RX9 128 yX1_loansHeldBy ∈ lw_gd := za_gd 449 (by decide +kernel) rfl
theorem w_450 : Cond.instanceMethod yX1_loansHeldBy ∈ lw_gd := za_gd 450 (by decide +kernel) rfl
theorem w_451 : Cond.selects RX1 yX1_loansHeldBy yX1_loansHeldBy ∈ lw_gd := za_gd 451 (by decide +kernel) rfl
theorem pv_X9_128 : za_YV RX9 128 yX1_loansHeldBy := ⟨w_449, w_450, w_451⟩
theorem w_456 : Cond.code yX1_owedTo cX1_owedTo 4 (some .int) ∈ lw_gd := za_gd 456 (by decide +kernel) rfl
theorem py_X1_owedTo : za_Y yX1_owedTo cX1_owedTo 4 (some .int) 1 := ⟨w_456, w_77, by decide +kernel⟩
theorem w_453 : Cond.methodLink RX9 131 yX1_owedTo ∈ lw_gd := za_gd 453 (by decide +kernel) rfl
theorem w_454 : Cond.instanceMethod yX1_owedTo ∈ lw_gd := za_gd 454 (by decide +kernel) rfl
theorem w_455 : Cond.selects RX1 yX1_owedTo yX1_owedTo ∈ lw_gd := za_gd 455 (by decide +kernel) rfl
theorem pv_X9_131 : za_YV RX9 131 yX1_owedTo := ⟨w_453, w_454, w_455⟩
theorem w_153 : Cond.fieldLink RX9 134 "AshLoans$Potter" "bushels" "[I" ∈ lw_gd := za_gd 153 (by decide +kernel) rfl
theorem pf_X9_134 : za_FL RX9 134 4 0 3 RX4 TX4 "AshLoans$Potter" := ⟨rfl, gin_X4, by decide, w_153, rfl⟩
theorem w_259 : Cond.fieldLink RX9 137 "AshLoans$State" "tapeCount" "I" ∈ lw_gd := za_gd 259 (by decide +kernel) rfl
theorem pf_X9_137 : za_FL RX9 137 7 4 7 RX7 TX7 "AshLoans$State" := ⟨rfl, gin_X7, by decide, w_259, rfl⟩
theorem w_255 : Cond.fieldLink RX9 140 "AshLoans$State" "tape" "[I" ∈ lw_gd := za_gd 255 (by decide +kernel) rfl
theorem pf_X9_140 : za_FL RX9 140 7 2 7 RX7 TX7 "AshLoans$State" := ⟨rfl, gin_X7, by decide, w_255, rfl⟩
theorem zk_s255 : (Int16.ofInt 255).toInt32 = 255 := by decide
theorem w_356 : Cond.fieldLink RX9 29 "AshLoans" "reader" "LAshLoans$Reader;" ∈ lw_gd := za_gd 356 (by decide +kernel) rfl
theorem pf_X9_29 : za_FL RX9 29 9 3 10 RX9 TX9 "AshLoans" := ⟨rfl, gin_X9, by decide, w_356, rfl⟩
theorem zk_bm10 : (Int8.ofInt (-10)).toInt32 = (-10) := by decide
theorem w_295 : Cond.fieldLink RX9 150 "AshLoans$Reader" "place" "I" ∈ lw_gd := za_gd 295 (by decide +kernel) rfl
theorem pf_X9_150 : za_FL RX9 150 5 5 6 RX5 TX5 "AshLoans$Reader" := ⟨rfl, gin_X5, by decide, w_295, rfl⟩
theorem w_253 : Cond.fieldLink RX9 153 "AshLoans$State" "laws" "[LAshLoans$Law;" ∈ lw_gd := za_gd 253 (by decide +kernel) rfl
theorem pf_X9_153 : za_FL RX9 153 7 1 7 RX7 TX7 "AshLoans$State" := ⟨rfl, gin_X7, by decide, w_253, rfl⟩
theorem w_289 : Cond.fieldLink RX9 157 "AshLoans$Reader" "code" "[I" ∈ lw_gd := za_gd 289 (by decide +kernel) rfl
theorem pf_X9_157 : za_FL RX9 157 5 1 6 RX5 TX5 "AshLoans$Reader" := ⟨rfl, gin_X5, by decide, w_289, rfl⟩
theorem w_292 : Cond.fieldLink RX9 160 "AshLoans$Reader" "size" "I" ∈ lw_gd := za_gd 292 (by decide +kernel) rfl
theorem pf_X9_160 : za_FL RX9 160 5 3 6 RX5 TX5 "AshLoans$Reader" := ⟨rfl, gin_X5, by decide, w_292, rfl⟩
theorem w_475 : Cond.code yX9_isUse cX9_isUse 1 (some .boolean) ∈ lw_gd := za_gd 475 (by decide +kernel) rfl
theorem py_X9_isUse : za_Y yX9_isUse cX9_isUse 1 (some .boolean) 1 := ⟨w_475, w_75, by decide +kernel⟩
theorem w_473 : Cond.methodLink RX9 143 yX9_isUse ∈ lw_gd := za_gd 473 (by decide +kernel) rfl
theorem w_474 : Cond.static yX9_isUse ∈ lw_gd := za_gd 474 (by decide +kernel) rfl
theorem ps_X9_143 : za_YS RX9 143 yX9_isUse := ⟨w_473, w_474⟩
theorem w_479 : Cond.code yX5_reads cX5_reads 4 (some .boolean) ∈ lw_gd := za_gd 479 (by decide +kernel) rfl
theorem py_X5_reads : za_Y yX5_reads cX5_reads 4 (some .boolean) 3 := ⟨w_479, w_82, by decide +kernel⟩
theorem w_476 : Cond.methodLink RX9 146 yX5_reads ∈ lw_gd := za_gd 476 (by decide +kernel) rfl
theorem w_477 : Cond.instanceMethod yX5_reads ∈ lw_gd := za_gd 477 (by decide +kernel) rfl
theorem w_478 : Cond.selects RX5 yX5_reads yX5_reads ∈ lw_gd := za_gd 478 (by decide +kernel) rfl
theorem pv_X9_146 : za_YV RX9 146 yX5_reads := ⟨w_476, w_477, w_478⟩
theorem w_519 : Cond.methodLink RX9 163 yX2_take ∈ lw_gd := za_gd 519 (by decide +kernel) rfl
theorem pv_X9_163 : za_YV RX9 163 yX2_take := ⟨w_519, w_520, w_521⟩
theorem w_529 : Cond.methodLink RX9 169 yX2_gives ∈ lw_gd := za_gd 529 (by decide +kernel) rfl
theorem pv_X9_169 : za_YV RX9 169 yX2_gives := ⟨w_529, w_530, w_531⟩
theorem zk_b60 : (Int8.ofInt 60).toInt32 = 60 := by decide
theorem w_210 : Cond.fieldLink RX9 177 "AshLoans$County" "loanCount" "I" ∈ lw_gd := za_gd 210 (by decide +kernel) rfl
theorem pf_X9_177 : za_FL RX9 177 1 5 7 RX1 TX1 "AshLoans$County" := ⟨rfl, gin_X1, by decide, w_210, rfl⟩
theorem w_551 : Cond.code yX1_canLend cX1_canLend 5 (some .boolean) ∈ lw_gd := za_gd 551 (by decide +kernel) rfl
theorem py_X1_canLend : za_Y yX1_canLend cX1_canLend 5 (some .boolean) 4 := ⟨w_551, w_77, by decide +kernel⟩
theorem w_548 : Cond.methodLink RX9 173 yX1_canLend ∈ lw_gd := za_gd 548 (by decide +kernel) rfl
theorem w_549 : Cond.instanceMethod yX1_canLend ∈ lw_gd := za_gd 549 (by decide +kernel) rfl
theorem w_550 : Cond.selects RX1 yX1_canLend yX1_canLend ∈ lw_gd := za_gd 550 (by decide +kernel) rfl
theorem pv_X9_173 : za_YV RX9 173 yX1_canLend := ⟨w_548, w_549, w_550⟩
theorem w_555 : Cond.code yX1_addLoan cX1_addLoan 7 none ∈ lw_gd := za_gd 555 (by decide +kernel) rfl
theorem py_X1_addLoan : za_Y yX1_addLoan cX1_addLoan 7 none 5 := ⟨w_555, w_77, by decide +kernel⟩
theorem w_552 : Cond.methodLink RX9 180 yX1_addLoan ∈ lw_gd := za_gd 552 (by decide +kernel) rfl
theorem w_553 : Cond.instanceMethod yX1_addLoan ∈ lw_gd := za_gd 553 (by decide +kernel) rfl
theorem w_554 : Cond.selects RX1 yX1_addLoan yX1_addLoan ∈ lw_gd := za_gd 554 (by decide +kernel) rfl
theorem pv_X9_180 : za_YV RX9 180 yX1_addLoan := ⟨w_552, w_553, w_554⟩
theorem w_204 : Cond.fieldLink RX9 187 "AshLoans$County" "loans" "[LAshLoans$Loan;" ∈ lw_gd := za_gd 204 (by decide +kernel) rfl
theorem pf_X9_187 : za_FL RX9 187 1 2 7 RX1 TX1 "AshLoans$County" := ⟨rfl, gin_X1, by decide, w_204, rfl⟩
theorem w_187 : Cond.fieldLink RX9 204 "AshLoans$Loan" "due" "I" ∈ lw_gd := za_gd 187 (by decide +kernel) rfl
theorem pf_X9_204 : za_FL RX9 204 3 4 5 RX3 TX3 "AshLoans$Loan" := ⟨rfl, gin_X3, by decide, w_187, rfl⟩
theorem w_184 : Cond.fieldLink RX9 202 "AshLoans$Loan" "bushels" "I" ∈ lw_gd := za_gd 184 (by decide +kernel) rfl
theorem pf_X9_202 : za_FL RX9 202 3 3 5 RX3 TX3 "AshLoans$Loan" := ⟨rfl, gin_X3, by decide, w_184, rfl⟩
theorem w_181 : Cond.fieldLink RX9 199 "AshLoans$Loan" "ash" "I" ∈ lw_gd := za_gd 181 (by decide +kernel) rfl
theorem pf_X9_199 : za_FL RX9 199 3 2 5 RX3 TX3 "AshLoans$Loan" := ⟨rfl, gin_X3, by decide, w_181, rfl⟩
theorem w_178 : Cond.fieldLink RX9 196 "AshLoans$Loan" "to" "I" ∈ lw_gd := za_gd 178 (by decide +kernel) rfl
theorem pf_X9_196 : za_FL RX9 196 3 1 5 RX3 TX3 "AshLoans$Loan" := ⟨rfl, gin_X3, by decide, w_178, rfl⟩
theorem w_175 : Cond.fieldLink RX9 191 "AshLoans$Loan" "from" "I" ∈ lw_gd := za_gd 175 (by decide +kernel) rfl
theorem pf_X9_191 : za_FL RX9 191 3 0 5 RX3 TX3 "AshLoans$Loan" := ⟨rfl, gin_X3, by decide, w_175, rfl⟩
theorem w_568 : Cond.code yX1_hasLoan cX1_hasLoan 2 (some .boolean) ∈ lw_gd := za_gd 568 (by decide +kernel) rfl
theorem py_X1_hasLoan : za_Y yX1_hasLoan cX1_hasLoan 2 (some .boolean) 1 := ⟨w_568, w_77, by decide +kernel⟩
theorem w_565 : Cond.methodLink RX9 184 yX1_hasLoan ∈ lw_gd := za_gd 565 (by decide +kernel) rfl
theorem w_566 : Cond.instanceMethod yX1_hasLoan ∈ lw_gd := za_gd 566 (by decide +kernel) rfl
theorem w_567 : Cond.selects RX1 yX1_hasLoan yX1_hasLoan ∈ lw_gd := za_gd 567 (by decide +kernel) rfl
theorem pv_X9_184 : za_YV RX9 184 yX1_hasLoan := ⟨w_565, w_566, w_567⟩
theorem w_573 : Cond.methodLink RX9 207 yX1_canGiveBack ∈ lw_gd := za_gd 573 (by decide +kernel) rfl
theorem pv_X9_207 : za_YV RX9 207 yX1_canGiveBack := ⟨w_573, w_574, w_575⟩
theorem w_577 : Cond.methodLink RX9 211 yX1_giveBack ∈ lw_gd := za_gd 577 (by decide +kernel) rfl
theorem pv_X9_211 : za_YV RX9 211 yX1_giveBack := ⟨w_577, w_578, w_579⟩
theorem w_594 : Cond.fieldLink RX9 340 "AshLoans" "POWERS" "[I" ∈ lw_gd := za_gd 594 (by decide +kernel) rfl
theorem w_614 : Cond.code yX9_colourOfAsh cX9_colourOfAsh 5 (some .int) ∈ lw_gd := za_gd 614 (by decide +kernel) rfl
theorem py_X9_colourOfAsh : za_Y yX9_colourOfAsh cX9_colourOfAsh 5 (some .int) 2 := ⟨w_614, w_75, by decide +kernel⟩
theorem w_611 : Cond.methodLink RX9 353 yX9_colourOfAsh ∈ lw_gd := za_gd 611 (by decide +kernel) rfl
theorem w_613 : Cond.instanceMethod yX9_colourOfAsh ∈ lw_gd := za_gd 613 (by decide +kernel) rfl
theorem w_s9 : Cond.selects RX9 yX9_colourOfAsh yX9_colourOfAsh ∈ lw_gd := za_gd 9 (by decide +kernel) rfl
theorem pv_X9_353 : za_YV RX9 353 yX9_colourOfAsh := ⟨w_611, w_613, w_s9⟩
theorem w_617 : Cond.code yX9_restByTen cX9_restByTen 2 (some .int) ∈ lw_gd := za_gd 617 (by decide +kernel) rfl
theorem py_X9_restByTen : za_Y yX9_restByTen cX9_restByTen 2 (some .int) 1 := ⟨w_617, w_75, by decide +kernel⟩
theorem w_615 : Cond.methodLink RX9 357 yX9_restByTen ∈ lw_gd := za_gd 615 (by decide +kernel) rfl
theorem w_616 : Cond.static yX9_restByTen ∈ lw_gd := za_gd 616 (by decide +kernel) rfl
theorem ps_X9_357 : za_YS RX9 357 yX9_restByTen := ⟨w_615, w_616⟩
theorem w_610 : Cond.code yX0_isForbiddenAt cX0_isForbiddenAt 2 (some .boolean) ∈ lw_gd := za_gd 610 (by decide +kernel) rfl
theorem py_X0_isForbiddenAt : za_Y yX0_isForbiddenAt cX0_isForbiddenAt 2 (some .boolean) 1 := ⟨w_610, w_78, by decide +kernel⟩
theorem w_607 : Cond.methodLink RX9 350 yX0_isForbiddenAt ∈ lw_gd := za_gd 607 (by decide +kernel) rfl
theorem w_608 : Cond.instanceMethod yX0_isForbiddenAt ∈ lw_gd := za_gd 608 (by decide +kernel) rfl
theorem w_609 : Cond.selects RX0 yX0_isForbiddenAt yX0_isForbiddenAt ∈ lw_gd := za_gd 609 (by decide +kernel) rfl
theorem pv_X9_350 : za_YV RX9 350 yX0_isForbiddenAt := ⟨w_607, w_608, w_609⟩
theorem w_593 : Cond.code yX9_isMix cX9_isMix 2 (some .boolean) ∈ lw_gd := za_gd 593 (by decide +kernel) rfl
theorem py_X9_isMix : za_Y yX9_isMix cX9_isMix 2 (some .boolean) 1 := ⟨w_593, w_75, by decide +kernel⟩
theorem w_590 : Cond.methodLink RX9 215 yX9_isMix ∈ lw_gd := za_gd 590 (by decide +kernel) rfl
theorem w_592 : Cond.instanceMethod yX9_isMix ∈ lw_gd := za_gd 592 (by decide +kernel) rfl
theorem w_s7 : Cond.selects RX9 yX9_isMix yX9_isMix ∈ lw_gd := za_gd 7 (by decide +kernel) rfl
theorem pv_X9_215 : za_YV RX9 215 yX9_isMix := ⟨w_590, w_592, w_s7⟩
theorem w_598 : Cond.code yX9_isHeat cX9_isHeat 1 (some .boolean) ∈ lw_gd := za_gd 598 (by decide +kernel) rfl
theorem py_X9_isHeat : za_Y yX9_isHeat cX9_isHeat 1 (some .boolean) 1 := ⟨w_598, w_75, by decide +kernel⟩
theorem w_596 : Cond.methodLink RX9 218 yX9_isHeat ∈ lw_gd := za_gd 596 (by decide +kernel) rfl
theorem w_597 : Cond.static yX9_isHeat ∈ lw_gd := za_gd 597 (by decide +kernel) rfl
theorem ps_X9_218 : za_YS RX9 218 yX9_isHeat := ⟨w_596, w_597⟩
theorem w_602 : Cond.code yX4_has cX4_has 4 (some .boolean) ∈ lw_gd := za_gd 602 (by decide +kernel) rfl
theorem py_X4_has : za_Y yX4_has cX4_has 4 (some .boolean) 1 := ⟨w_602, w_79, by decide +kernel⟩
theorem w_599 : Cond.methodLink RX9 221 yX4_has ∈ lw_gd := za_gd 599 (by decide +kernel) rfl
theorem w_600 : Cond.instanceMethod yX4_has ∈ lw_gd := za_gd 600 (by decide +kernel) rfl
theorem w_601 : Cond.selects RX4 yX4_has yX4_has ∈ lw_gd := za_gd 601 (by decide +kernel) rfl
theorem pv_X9_221 : za_YV RX9 221 yX4_has := ⟨w_599, w_600, w_601⟩
theorem w_606 : Cond.code yX9_colourOfMix cX9_colourOfMix 8 (some .int) ∈ lw_gd := za_gd 606 (by decide +kernel) rfl
theorem py_X9_colourOfMix : za_Y yX9_colourOfMix cX9_colourOfMix 8 (some .int) 2 := ⟨w_606, w_75, by decide +kernel⟩
theorem w_603 : Cond.methodLink RX9 224 yX9_colourOfMix ∈ lw_gd := za_gd 603 (by decide +kernel) rfl
theorem w_605 : Cond.instanceMethod yX9_colourOfMix ∈ lw_gd := za_gd 605 (by decide +kernel) rfl
theorem w_s8 : Cond.selects RX9 yX9_colourOfMix yX9_colourOfMix ∈ lw_gd := za_gd 8 (by decide +kernel) rfl
theorem pv_X9_224 : za_YV RX9 224 yX9_colourOfMix := ⟨w_603, w_605, w_s8⟩
theorem w_621 : Cond.code yX4_burn cX4_burn 4 none ∈ lw_gd := za_gd 621 (by decide +kernel) rfl
theorem py_X4_burn : za_Y yX4_burn cX4_burn 4 none 1 := ⟨w_621, w_79, by decide +kernel⟩
theorem w_618 : Cond.methodLink RX9 228 yX4_burn ∈ lw_gd := za_gd 618 (by decide +kernel) rfl
theorem w_619 : Cond.instanceMethod yX4_burn ∈ lw_gd := za_gd 619 (by decide +kernel) rfl
theorem w_620 : Cond.selects RX4 yX4_burn yX4_burn ∈ lw_gd := za_gd 620 (by decide +kernel) rfl
theorem pv_X9_228 : za_YV RX9 228 yX4_burn := ⟨w_618, w_619, w_620⟩
theorem w_212 : Cond.fieldLink RX9 231 "AshLoans$County" "day" "I" ∈ lw_gd := za_gd 212 (by decide +kernel) rfl
theorem pf_X9_231 : za_FL RX9 231 1 6 7 RX1 TX1 "AshLoans$County" := ⟨rfl, gin_X1, by decide, w_212, rfl⟩
theorem w_629 : Cond.code yX1_passDays cX1_passDays 4 none ∈ lw_gd := za_gd 629 (by decide +kernel) rfl
theorem py_X1_passDays : za_Y yX1_passDays cX1_passDays 4 none 2 := ⟨w_629, w_77, by decide +kernel⟩
theorem w_626 : Cond.methodLink RX9 234 yX1_passDays ∈ lw_gd := za_gd 626 (by decide +kernel) rfl
theorem w_627 : Cond.instanceMethod yX1_passDays ∈ lw_gd := za_gd 627 (by decide +kernel) rfl
theorem w_628 : Cond.selects RX1 yX1_passDays yX1_passDays ∈ lw_gd := za_gd 628 (by decide +kernel) rfl
theorem pv_X9_234 : za_YV RX9 234 yX1_passDays := ⟨w_626, w_627, w_628⟩
theorem w_263 : Cond.fieldLink RX9 290 "AshLoans$State" "z" "I" ∈ lw_gd := za_gd 263 (by decide +kernel) rfl
theorem pf_X9_290 : za_FL RX9 290 7 6 7 RX7 TX7 "AshLoans$State" := ⟨rfl, gin_X7, by decide, w_263, rfl⟩
theorem w_658 : Cond.constant RX9 346 1103515245 ∈ lw_gd := za_gd 658 (by decide +kernel) rfl
theorem zk_s12345 : (Int16.ofInt 12345).toInt32 = 12345 := by decide
theorem w_657 : Cond.code yX9_draw cX9_draw 1 (some .int) ∈ lw_gd := za_gd 657 (by decide +kernel) rfl
theorem py_X9_draw : za_Y yX9_draw cX9_draw 1 (some .int) 0 := ⟨w_657, w_75, by decide +kernel⟩
theorem w_654 : Cond.methodLink RX9 347 yX9_draw ∈ lw_gd := za_gd 654 (by decide +kernel) rfl
theorem w_656 : Cond.instanceMethod yX9_draw ∈ lw_gd := za_gd 656 (by decide +kernel) rfl
theorem w_s11 : Cond.selects RX9 yX9_draw yX9_draw ∈ lw_gd := za_gd 11 (by decide +kernel) rfl
theorem pv_X9_347 : za_YV RX9 347 yX9_draw := ⟨w_654, w_656, w_s11⟩
theorem w_653 : Cond.code yX9_drawHedge cX9_drawHedge 3 none ∈ lw_gd := za_gd 653 (by decide +kernel) rfl
theorem py_X9_drawHedge : za_Y yX9_drawHedge cX9_drawHedge 3 none 0 := ⟨w_653, w_75, by decide +kernel⟩
theorem w_650 : Cond.methodLink RX9 238 yX9_drawHedge ∈ lw_gd := za_gd 650 (by decide +kernel) rfl
theorem w_652 : Cond.instanceMethod yX9_drawHedge ∈ lw_gd := za_gd 652 (by decide +kernel) rfl
theorem w_s10 : Cond.selects RX9 yX9_drawHedge yX9_drawHedge ∈ lw_gd := za_gd 10 (by decide +kernel) rfl
theorem pv_X9_238 : za_YV RX9 238 yX9_drawHedge := ⟨w_650, w_652, w_s10⟩
theorem w_355 : Cond.fieldLink RX9 22 "AshLoans" "thought" "LAshLoans$County;" ∈ lw_gd := za_gd 355 (by decide +kernel) rfl
theorem pf_X9_22 : za_FL RX9 22 9 2 10 RX9 TX9 "AshLoans" := ⟨rfl, gin_X9, by decide, w_355, rfl⟩
theorem w_667 : Cond.methodLink RX9 241 yX1_copy ∈ lw_gd := za_gd 667 (by decide +kernel) rfl
theorem pv_X9_241 : za_YV RX9 241 yX1_copy := ⟨w_667, w_668, w_669⟩
theorem w_360 : Cond.fieldLink RX9 50 "AshLoans" "shades" "[I" ∈ lw_gd := za_gd 360 (by decide +kernel) rfl
theorem pf_X9_50 : za_FL RX9 50 9 7 10 RX9 TX9 "AshLoans" := ⟨rfl, gin_X9, by decide, w_360, rfl⟩
theorem w_361 : Cond.fieldLink RX9 53 "AshLoans" "limits" "[I" ∈ lw_gd := za_gd 361 (by decide +kernel) rfl
theorem pf_X9_53 : za_FL RX9 53 9 8 10 RX9 TX9 "AshLoans" := ⟨rfl, gin_X9, by decide, w_361, rfl⟩
theorem w_699 : Cond.methodLink RX9 273 Lib.Math.min.name ∈ lw_gd := za_gd 699 (by decide +kernel) rfl
theorem w_700 : Cond.static Lib.Math.min.name ∈ lw_gd := za_gd 700 (by decide +kernel) rfl
theorem w_91 : Cond.initialized "java/lang/Math" ∈ lw_gd := za_gd 91 (by decide +kernel) rfl
theorem w_701 : Cond.code Lib.Math.min.name Lib.Math.min.code 2 (some .int) ∈ lw_gd := za_gd 701 (by decide +kernel) rfl
theorem w_713 : Cond.code yX9_colourOfChoice cX9_colourOfChoice 4 (some .int) ∈ lw_gd := za_gd 713 (by decide +kernel) rfl
theorem py_X9_colourOfChoice : za_Y yX9_colourOfChoice cX9_colourOfChoice 4 (some .int) 1 := ⟨w_713, w_75, by decide +kernel⟩
theorem w_710 : Cond.methodLink RX9 363 yX9_colourOfChoice ∈ lw_gd := za_gd 710 (by decide +kernel) rfl
theorem w_712 : Cond.instanceMethod yX9_colourOfChoice ∈ lw_gd := za_gd 712 (by decide +kernel) rfl
theorem w_s15 : Cond.selects RX9 yX9_colourOfChoice yX9_colourOfChoice ∈ lw_gd := za_gd 15 (by decide +kernel) rfl
theorem pv_X9_363 : za_YV RX9 363 yX9_colourOfChoice := ⟨w_710, w_712, w_s15⟩
theorem w_717 : Cond.code yX9_mixOfChoice cX9_mixOfChoice 4 (some .int) ∈ lw_gd := za_gd 717 (by decide +kernel) rfl
theorem py_X9_mixOfChoice : za_Y yX9_mixOfChoice cX9_mixOfChoice 4 (some .int) 1 := ⟨w_717, w_75, by decide +kernel⟩
theorem w_714 : Cond.methodLink RX9 366 yX9_mixOfChoice ∈ lw_gd := za_gd 714 (by decide +kernel) rfl
theorem w_716 : Cond.instanceMethod yX9_mixOfChoice ∈ lw_gd := za_gd 716 (by decide +kernel) rfl
theorem w_s16 : Cond.selects RX9 yX9_mixOfChoice yX9_mixOfChoice ∈ lw_gd := za_gd 16 (by decide +kernel) rfl
theorem pv_X9_366 : za_YV RX9 366 yX9_mixOfChoice := ⟨w_714, w_716, w_s16⟩
theorem w_709 : Cond.code yX9_bushelsOfChoice cX9_bushelsOfChoice 5 (some .int) ∈ lw_gd := za_gd 709 (by decide +kernel) rfl
theorem py_X9_bushelsOfChoice : za_Y yX9_bushelsOfChoice cX9_bushelsOfChoice 5 (some .int) 1 := ⟨w_709, w_75, by decide +kernel⟩
theorem w_706 : Cond.methodLink RX9 360 yX9_bushelsOfChoice ∈ lw_gd := za_gd 706 (by decide +kernel) rfl
theorem w_708 : Cond.instanceMethod yX9_bushelsOfChoice ∈ lw_gd := za_gd 708 (by decide +kernel) rfl
theorem w_s14 : Cond.selects RX9 yX9_bushelsOfChoice yX9_bushelsOfChoice ∈ lw_gd := za_gd 14 (by decide +kernel) rfl
theorem pv_X9_360 : za_YV RX9 360 yX9_bushelsOfChoice := ⟨w_706, w_708, w_s14⟩
theorem w_694 : Cond.code yX9_isColour cX9_isColour 1 (some .boolean) ∈ lw_gd := za_gd 694 (by decide +kernel) rfl
theorem py_X9_isColour : za_Y yX9_isColour cX9_isColour 1 (some .boolean) 1 := ⟨w_694, w_75, by decide +kernel⟩
theorem w_692 : Cond.methodLink RX9 245 yX9_isColour ∈ lw_gd := za_gd 692 (by decide +kernel) rfl
theorem w_693 : Cond.static yX9_isColour ∈ lw_gd := za_gd 693 (by decide +kernel) rfl
theorem ps_X9_245 : za_YS RX9 245 yX9_isColour := ⟨w_692, w_693⟩
theorem w_698 : Cond.code yX9_prepareRecipes cX9_prepareRecipes 5 none ∈ lw_gd := za_gd 698 (by decide +kernel) rfl
theorem py_X9_prepareRecipes : za_Y yX9_prepareRecipes cX9_prepareRecipes 5 none 2 := ⟨w_698, w_75, by decide +kernel⟩
theorem w_695 : Cond.methodLink RX9 248 yX9_prepareRecipes ∈ lw_gd := za_gd 695 (by decide +kernel) rfl
theorem w_697 : Cond.instanceMethod yX9_prepareRecipes ∈ lw_gd := za_gd 697 (by decide +kernel) rfl
theorem w_s12 : Cond.selects RX9 yX9_prepareRecipes yX9_prepareRecipes ∈ lw_gd := za_gd 12 (by decide +kernel) rfl
theorem pv_X9_248 : za_YV RX9 248 yX9_prepareRecipes := ⟨w_695, w_697, w_s12⟩
theorem w_705 : Cond.code yX9_fewestFor cX9_fewestFor 8 (some .int) ∈ lw_gd := za_gd 705 (by decide +kernel) rfl
theorem py_X9_fewestFor : za_Y yX9_fewestFor cX9_fewestFor 8 (some .int) 1 := ⟨w_705, w_75, by decide +kernel⟩
theorem w_702 : Cond.methodLink RX9 252 yX9_fewestFor ∈ lw_gd := za_gd 702 (by decide +kernel) rfl
theorem w_704 : Cond.instanceMethod yX9_fewestFor ∈ lw_gd := za_gd 704 (by decide +kernel) rfl
theorem w_s13 : Cond.selects RX9 yX9_fewestFor yX9_fewestFor ∈ lw_gd := za_gd 13 (by decide +kernel) rfl
theorem pv_X9_252 : za_YV RX9 252 yX9_fewestFor := ⟨w_702, w_704, w_s13⟩
theorem w_725 : Cond.code yX9_heatsGiving cX9_heatsGiving 5 (some .int) ∈ lw_gd := za_gd 725 (by decide +kernel) rfl
theorem py_X9_heatsGiving : za_Y yX9_heatsGiving cX9_heatsGiving 5 (some .int) 2 := ⟨w_725, w_75, by decide +kernel⟩
theorem w_722 : Cond.methodLink RX9 255 yX9_heatsGiving ∈ lw_gd := za_gd 722 (by decide +kernel) rfl
theorem w_724 : Cond.instanceMethod yX9_heatsGiving ∈ lw_gd := za_gd 724 (by decide +kernel) rfl
theorem w_s17 : Cond.selects RX9 yX9_heatsGiving yX9_heatsGiving ∈ lw_gd := za_gd 17 (by decide +kernel) rfl
theorem pv_X9_255 : za_YV RX9 255 yX9_heatsGiving := ⟨w_722, w_724, w_s17⟩
theorem w_345 : Cond.fieldLink RX9 265 "AshLoans$Sheet" "size" "I" ∈ lw_gd := za_gd 345 (by decide +kernel) rfl
theorem pf_X9_265 : za_FL RX9 265 6 2 3 RX6 TX6 "AshLoans$Sheet" := ⟨rfl, gin_X6, by decide, w_345, rfl⟩
theorem w_341 : Cond.fieldLink RX9 315 "AshLoans$Sheet" "numbers" "[I" ∈ lw_gd := za_gd 341 (by decide +kernel) rfl
theorem pf_X9_315 : za_FL RX9 315 6 0 3 RX6 TX6 "AshLoans$Sheet" := ⟨rfl, gin_X6, by decide, w_341, rfl⟩
theorem w_358 : Cond.fieldLink RX9 42 "AshLoans" "sheets" "[LAshLoans$Sheet;" ∈ lw_gd := za_gd 358 (by decide +kernel) rfl
theorem pf_X9_42 : za_FL RX9 42 9 5 10 RX9 TX9 "AshLoans" := ⟨rfl, gin_X9, by decide, w_358, rfl⟩
theorem w_740 : Cond.code yX9_canHaveGiven cX9_canHaveGiven 5 (some .boolean) ∈ lw_gd := za_gd 740 (by decide +kernel) rfl
theorem py_X9_canHaveGiven : za_Y yX9_canHaveGiven cX9_canHaveGiven 5 (some .boolean) 2 := ⟨w_740, w_75, by decide +kernel⟩
theorem w_737 : Cond.methodLink RX9 266 yX9_canHaveGiven ∈ lw_gd := za_gd 737 (by decide +kernel) rfl
theorem w_739 : Cond.instanceMethod yX9_canHaveGiven ∈ lw_gd := za_gd 739 (by decide +kernel) rfl
theorem w_s18 : Cond.selects RX9 yX9_canHaveGiven yX9_canHaveGiven ∈ lw_gd := za_gd 18 (by decide +kernel) rfl
theorem pv_X9_266 : za_YV RX9 266 yX9_canHaveGiven := ⟨w_737, w_739, w_s18⟩
theorem w_732 : Cond.code yX9_isSheet cX9_isSheet 1 (some .boolean) ∈ lw_gd := za_gd 732 (by decide +kernel) rfl
theorem py_X9_isSheet : za_Y yX9_isSheet cX9_isSheet 1 (some .boolean) 1 := ⟨w_732, w_75, by decide +kernel⟩
theorem w_730 : Cond.methodLink RX9 258 yX9_isSheet ∈ lw_gd := za_gd 730 (by decide +kernel) rfl
theorem w_731 : Cond.static yX9_isSheet ∈ lw_gd := za_gd 731 (by decide +kernel) rfl
theorem ps_X9_258 : za_YS RX9 258 yX9_isSheet := ⟨w_730, w_731⟩
theorem w_736 : Cond.code yX6_isMissing cX6_isMissing 1 (some .boolean) ∈ lw_gd := za_gd 736 (by decide +kernel) rfl
theorem w_84 : Cond.initialized RX6 ∈ lw_gd := za_gd 84 (by decide +kernel) rfl
theorem py_X6_isMissing : za_Y yX6_isMissing cX6_isMissing 1 (some .boolean) 0 := ⟨w_736, w_84, by decide +kernel⟩
theorem w_733 : Cond.methodLink RX9 261 yX6_isMissing ∈ lw_gd := za_gd 733 (by decide +kernel) rfl
theorem w_734 : Cond.instanceMethod yX6_isMissing ∈ lw_gd := za_gd 734 (by decide +kernel) rfl
theorem w_735 : Cond.selects RX6 yX6_isMissing yX6_isMissing ∈ lw_gd := za_gd 735 (by decide +kernel) rfl
theorem pv_X9_261 : za_YV RX9 261 yX6_isMissing := ⟨w_733, w_734, w_735⟩
theorem w_748 : Cond.code yX1_lentBetween cX1_lentBetween 7 (some .int) ∈ lw_gd := za_gd 748 (by decide +kernel) rfl
theorem py_X1_lentBetween : za_Y yX1_lentBetween cX1_lentBetween 7 (some .int) 3 := ⟨w_748, w_77, by decide +kernel⟩
theorem w_745 : Cond.methodLink RX9 270 yX1_lentBetween ∈ lw_gd := za_gd 745 (by decide +kernel) rfl
theorem w_746 : Cond.instanceMethod yX1_lentBetween ∈ lw_gd := za_gd 746 (by decide +kernel) rfl
theorem w_747 : Cond.selects RX1 yX1_lentBetween yX1_lentBetween ∈ lw_gd := za_gd 747 (by decide +kernel) rfl
theorem pv_X9_270 : za_YV RX9 270 yX1_lentBetween := ⟨w_745, w_746, w_747⟩
theorem w_756 : Cond.code yX1_brokenOfAll cX1_brokenOfAll 3 (some .int) ∈ lw_gd := za_gd 756 (by decide +kernel) rfl
theorem py_X1_brokenOfAll : za_Y yX1_brokenOfAll cX1_brokenOfAll 3 (some .int) 0 := ⟨w_756, w_77, by decide +kernel⟩
theorem w_753 : Cond.methodLink RX9 278 yX1_brokenOfAll ∈ lw_gd := za_gd 753 (by decide +kernel) rfl
theorem w_754 : Cond.instanceMethod yX1_brokenOfAll ∈ lw_gd := za_gd 754 (by decide +kernel) rfl
theorem w_755 : Cond.selects RX1 yX1_brokenOfAll yX1_brokenOfAll ∈ lw_gd := za_gd 755 (by decide +kernel) rfl
theorem pv_X9_278 : za_YV RX9 278 yX1_brokenOfAll := ⟨w_753, w_754, w_755⟩
theorem w_764 : Cond.constant RJ6 265 1431655765 ∈ lw_gd := za_gd 764 (by decide +kernel) rfl
theorem w_765 : Cond.constant RJ6 266 858993459 ∈ lw_gd := za_gd 765 (by decide +kernel) rfl
theorem w_766 : Cond.constant RJ6 267 252645135 ∈ lw_gd := za_gd 766 (by decide +kernel) rfl
theorem zk_b63 : (Int8.ofInt 63).toInt32 = 63 := by decide
theorem w_763 : Cond.code yJ6_bitCount_0f7a4 cJ6_bitCount_0f7a4 1 (some .int) ∈ lw_gd := za_gd 763 (by decide +kernel) rfl
theorem w_92 : Cond.initialized RJ6 ∈ lw_gd := za_gd 92 (by decide +kernel) rfl
theorem py_J6_bitCount_0f7a4 : za_Y yJ6_bitCount_0f7a4 cJ6_bitCount_0f7a4 1 (some .int) 1 := ⟨w_763, w_92, by decide +kernel⟩
theorem w_761 : Cond.methodLink RX9 282 yJ6_bitCount_0f7a4 ∈ lw_gd := za_gd 761 (by decide +kernel) rfl
theorem w_762 : Cond.static yJ6_bitCount_0f7a4 ∈ lw_gd := za_gd 762 (by decide +kernel) rfl
theorem ps_X9_282 : za_YS RX9 282 yJ6_bitCount_0f7a4 := ⟨w_761, w_762⟩
theorem w_769 : Cond.code yX9_commonDivisor cX9_commonDivisor 3 (some .int) ∈ lw_gd := za_gd 769 (by decide +kernel) rfl
theorem py_X9_commonDivisor : za_Y yX9_commonDivisor cX9_commonDivisor 3 (some .int) 2 := ⟨w_769, w_75, by decide +kernel⟩
theorem w_767 : Cond.methodLink RX9 287 yX9_commonDivisor ∈ lw_gd := za_gd 767 (by decide +kernel) rfl
theorem w_768 : Cond.static yX9_commonDivisor ∈ lw_gd := za_gd 768 (by decide +kernel) rfl
theorem ps_X9_287 : za_YS RX9 287 yX9_commonDivisor := ⟨w_767, w_768⟩
theorem w_357 : Cond.fieldLink RX9 36 "AshLoans" "voices" "LAshLoans$Voices;" ∈ lw_gd := za_gd 357 (by decide +kernel) rfl
theorem pf_X9_36 : za_FL RX9 36 9 4 10 RX9 TX9 "AshLoans" := ⟨rfl, gin_X9, by decide, w_357, rfl⟩
theorem w_781 : Cond.code yX8_speak cX8_speak 5 (some .int) ∈ lw_gd := za_gd 781 (by decide +kernel) rfl
theorem py_X8_speak : za_Y yX8_speak cX8_speak 5 (some .int) 4 := ⟨w_781, w_83, by decide +kernel⟩
theorem w_778 : Cond.methodLink RX9 293 yX8_speak ∈ lw_gd := za_gd 778 (by decide +kernel) rfl
theorem w_779 : Cond.instanceMethod yX8_speak ∈ lw_gd := za_gd 779 (by decide +kernel) rfl
theorem w_780 : Cond.selects RX8 yX8_speak yX8_speak ∈ lw_gd := za_gd 780 (by decide +kernel) rfl
theorem pv_X9_293 : za_YV RX9 293 yX8_speak := ⟨w_778, w_779, w_780⟩
theorem w_318 : Cond.fieldLink RX9 297 "AshLoans$Voices" "traced" "I" ∈ lw_gd := za_gd 318 (by decide +kernel) rfl
theorem pf_X9_297 : za_FL RX9 297 8 1 5 RX8 TX8 "AshLoans$Voices" := ⟨rfl, gin_X8, by decide, w_318, rfl⟩
theorem w_316 : Cond.fieldLink RX9 300 "AshLoans$Voices" "bodies" "[I" ∈ lw_gd := za_gd 316 (by decide +kernel) rfl
theorem pf_X9_300 : za_FL RX9 300 8 0 5 RX8 TX8 "AshLoans$Voices" := ⟨rfl, gin_X8, by decide, w_316, rfl⟩
theorem zk_b32 : (Int8.ofInt 32).toInt32 = 32 := by decide
theorem w_817 : Cond.code yX6_begin cX6_begin 4 none ∈ lw_gd := za_gd 817 (by decide +kernel) rfl
theorem py_X6_begin : za_Y yX6_begin cX6_begin 4 none 2 := ⟨w_817, w_84, by decide +kernel⟩
theorem w_814 : Cond.methodLink RX9 303 yX6_begin ∈ lw_gd := za_gd 814 (by decide +kernel) rfl
theorem w_815 : Cond.instanceMethod yX6_begin ∈ lw_gd := za_gd 815 (by decide +kernel) rfl
theorem w_816 : Cond.selects RX6 yX6_begin yX6_begin ∈ lw_gd := za_gd 816 (by decide +kernel) rfl
theorem pv_X9_303 : za_YV RX9 303 yX6_begin := ⟨w_814, w_815, w_816⟩
theorem w_826 : Cond.code yX6_write cX6_write 3 none ∈ lw_gd := za_gd 826 (by decide +kernel) rfl
theorem py_X6_write : za_Y yX6_write cX6_write 3 none 2 := ⟨w_826, w_84, by decide +kernel⟩
theorem w_823 : Cond.methodLink RX9 306 yX6_write ∈ lw_gd := za_gd 823 (by decide +kernel) rfl
theorem w_824 : Cond.instanceMethod yX6_write ∈ lw_gd := za_gd 824 (by decide +kernel) rfl
theorem w_825 : Cond.selects RX6 yX6_write yX6_write ∈ lw_gd := za_gd 825 (by decide +kernel) rfl
theorem pv_X9_306 : za_YV RX9 306 yX6_write := ⟨w_823, w_824, w_825⟩
theorem w_343 : Cond.fieldLink RX9 309 "AshLoans$Sheet" "bits" "I" ∈ lw_gd := za_gd 343 (by decide +kernel) rfl
theorem pf_X9_309 : za_FL RX9 309 6 1 3 RX6 TX6 "AshLoans$Sheet" := ⟨rfl, gin_X6, by decide, w_343, rfl⟩
theorem w_835 : Cond.methodLink RX9 318 arraycopyName ∈ lw_gd := za_gd 835 (by decide +kernel) rfl
theorem w_834 : Cond.code yX6_holds cX6_holds 3 (some .boolean) ∈ lw_gd := za_gd 834 (by decide +kernel) rfl
theorem py_X6_holds : za_Y yX6_holds cX6_holds 3 (some .boolean) 2 := ⟨w_834, w_84, by decide +kernel⟩
theorem w_831 : Cond.methodLink RX9 312 yX6_holds ∈ lw_gd := za_gd 831 (by decide +kernel) rfl
theorem w_832 : Cond.instanceMethod yX6_holds ∈ lw_gd := za_gd 832 (by decide +kernel) rfl
theorem w_833 : Cond.selects RX6 yX6_holds yX6_holds ∈ lw_gd := za_gd 833 (by decide +kernel) rfl
theorem pv_X9_312 : za_YV RX9 312 yX6_holds := ⟨w_831, w_832, w_833⟩
theorem w_354 : Cond.fieldLink RX9 16 "AshLoans" "kept" "LAshLoans$State;" ∈ lw_gd := za_gd 354 (by decide +kernel) rfl
theorem pf_X9_16 : za_FL RX9 16 9 1 10 RX9 TX9 "AshLoans" := ⟨rfl, gin_X9, by decide, w_354, rfl⟩
theorem w_362 : Cond.fieldLink RX9 327 "AshLoans" "images" "I" ∈ lw_gd := za_gd 362 (by decide +kernel) rfl
theorem pf_X9_327 : za_FL RX9 327 9 9 10 RX9 TX9 "AshLoans" := ⟨rfl, gin_X9, by decide, w_362, rfl⟩
theorem pt_X9_9 : za_FT 9 10 TX9 .int := ⟨rfl, by decide +kernel, ⟨tyX9, tyX9_ok⟩, nmX9⟩
theorem w_851 : Cond.code yX7_copy cX7_copy 3 none ∈ lw_gd := za_gd 851 (by decide +kernel) rfl
theorem w_76 : Cond.initialized RX7 ∈ lw_gd := za_gd 76 (by decide +kernel) rfl
theorem py_X7_copy : za_Y yX7_copy cX7_copy 3 none 1 := ⟨w_851, w_76, by decide +kernel⟩
theorem w_848 : Cond.methodLink RX9 324 yX7_copy ∈ lw_gd := za_gd 848 (by decide +kernel) rfl
theorem w_849 : Cond.instanceMethod yX7_copy ∈ lw_gd := za_gd 849 (by decide +kernel) rfl
theorem w_850 : Cond.selects RX7 yX7_copy yX7_copy ∈ lw_gd := za_gd 850 (by decide +kernel) rfl
theorem pv_X9_324 : za_YV RX9 324 yX7_copy := ⟨w_848, w_849, w_850⟩
theorem w_261 : Cond.fieldLink RX9 330 "AshLoans$State" "waitingCount" "I" ∈ lw_gd := za_gd 261 (by decide +kernel) rfl
theorem pf_X9_330 : za_FL RX9 330 7 5 7 RX7 TX7 "AshLoans$State" := ⟨rfl, gin_X7, by decide, w_261, rfl⟩
theorem w_257 : Cond.fieldLink RX9 333 "AshLoans$State" "waiting" "[I" ∈ lw_gd := za_gd 257 (by decide +kernel) rfl
theorem pf_X9_333 : za_FL RX9 333 7 3 7 RX7 TX7 "AshLoans$State" := ⟨rfl, gin_X7, by decide, w_257, rfl⟩
theorem w_874 : Cond.code yX1_potsOfAll cX1_potsOfAll 3 (some .int) ∈ lw_gd := za_gd 874 (by decide +kernel) rfl
theorem py_X1_potsOfAll : za_Y yX1_potsOfAll cX1_potsOfAll 3 (some .int) 0 := ⟨w_874, w_77, by decide +kernel⟩
theorem w_871 : Cond.methodLink RX9 336 yX1_potsOfAll ∈ lw_gd := za_gd 871 (by decide +kernel) rfl
theorem w_872 : Cond.instanceMethod yX1_potsOfAll ∈ lw_gd := za_gd 872 (by decide +kernel) rfl
theorem w_873 : Cond.selects RX1 yX1_potsOfAll yX1_potsOfAll ∈ lw_gd := za_gd 873 (by decide +kernel) rfl
theorem pv_X9_336 : za_YV RX9 336 yX1_potsOfAll := ⟨w_871, w_872, w_873⟩
theorem w_893 : Cond.fieldLink RX10 19 "AshLoansModel" "errors" "[I" ∈ lw_gd := za_gd 893 (by decide +kernel) rfl
theorem pf_X10_19 : za_FL RX10 19 10 4 23 RX10 TX10 "AshLoansModel" := ⟨rfl, gin_X10, by decide, w_893, rfl⟩
theorem w_972 : Cond.constant RX10 56 (-1000000000) ∈ lw_gd := za_gd 972 (by decide +kernel) rfl
theorem w_1089 : Cond.methodLink RX10 57 Lib.Math.min.name ∈ lw_gd := za_gd 1089 (by decide +kernel) rfl
theorem w_1090 : Cond.methodLink RX10 63 Lib.Math.max.name ∈ lw_gd := za_gd 1090 (by decide +kernel) rfl
theorem w_1091 : Cond.static Lib.Math.max.name ∈ lw_gd := za_gd 1091 (by decide +kernel) rfl
theorem w_1092 : Cond.code Lib.Math.max.name Lib.Math.max.code 2 (some .int) ∈ lw_gd := za_gd 1092 (by decide +kernel) rfl
theorem zk_s279 : (Int16.ofInt 279).toInt32 = 279 := by decide
theorem w_889 : Cond.fieldLink RX10 9 "AshLoansModel" "now" "[I" ∈ lw_gd := za_gd 889 (by decide +kernel) rfl
theorem pf_X10_9 : za_FL RX10 9 10 0 23 RX10 TX10 "AshLoansModel" := ⟨rfl, gin_X10, by decide, w_889, rfl⟩
theorem w_891 : Cond.fieldLink RX10 16 "AshLoansModel" "aside" "[I" ∈ lw_gd := za_gd 891 (by decide +kernel) rfl
theorem pf_X10_16 : za_FL RX10 16 10 2 23 RX10 TX10 "AshLoansModel" := ⟨rfl, gin_X10, by decide, w_891, rfl⟩
theorem w_1294 : Cond.code yX10_copy cX10_copy 3 none ∈ lw_gd := za_gd 1294 (by decide +kernel) rfl
theorem w_85 : Cond.initialized RX10 ∈ lw_gd := za_gd 85 (by decide +kernel) rfl
theorem py_X10_copy : za_Y yX10_copy cX10_copy 3 none 2 := ⟨w_1294, w_85, by decide +kernel⟩
theorem w_1292 : Cond.methodLink RX10 66 yX10_copy ∈ lw_gd := za_gd 1292 (by decide +kernel) rfl
theorem w_1293 : Cond.static yX10_copy ∈ lw_gd := za_gd 1293 (by decide +kernel) rfl
theorem ps_X10_66 : za_YS RX10 66 yX10_copy := ⟨w_1292, w_1293⟩
theorem w_967 : Cond.constant RX10 74 (-1000000001) ∈ lw_gd := za_gd 967 (by decide +kernel) rfl
theorem w_973 : Cond.constant RX10 79 (-1000000004) ∈ lw_gd := za_gd 973 (by decide +kernel) rfl
theorem zk_b105 : (Int8.ofInt 105).toInt32 = 105 := by decide
theorem w_974 : Cond.constantLong RX10 80 255 ∈ lw_gd := za_gd 974 (by decide +kernel) rfl
theorem w_966 : Cond.code yX10_within cX10_within 3 (some .boolean) ∈ lw_gd := za_gd 966 (by decide +kernel) rfl
theorem py_X10_within : za_Y yX10_within cX10_within 3 (some .boolean) 3 := ⟨w_966, w_85, by decide +kernel⟩
theorem w_964 : Cond.methodLink RX10 70 yX10_within ∈ lw_gd := za_gd 964 (by decide +kernel) rfl
theorem w_965 : Cond.static yX10_within ∈ lw_gd := za_gd 965 (by decide +kernel) rfl
theorem ps_X10_70 : za_YS RX10 70 yX10_within := ⟨w_964, w_965⟩
theorem w_971 : Cond.code yX10_finding cX10_finding 2 (some .int) ∈ lw_gd := za_gd 971 (by decide +kernel) rfl
theorem py_X10_finding : za_Y yX10_finding cX10_finding 2 (some .int) 1 := ⟨w_971, w_85, by decide +kernel⟩
theorem w_968 : Cond.methodLink RX10 75 yX10_finding ∈ lw_gd := za_gd 968 (by decide +kernel) rfl
theorem w_970 : Cond.instanceMethod yX10_finding ∈ lw_gd := za_gd 970 (by decide +kernel) rfl
theorem w_s24 : Cond.selects RX10 yX10_finding yX10_finding ∈ lw_gd := za_gd 24 (by decide +kernel) rfl
theorem pv_X10_75 : za_YV RX10 75 yX10_finding := ⟨w_968, w_970, w_s24⟩
theorem w_898 : Cond.fieldLink RX10 82 "AshLoansModel" "isWrong" "Z" ∈ lw_gd := za_gd 898 (by decide +kernel) rfl
theorem pf_X10_82 : za_FL RX10 82 10 9 23 RX10 TX10 "AshLoansModel" := ⟨rfl, gin_X10, by decide, w_898, rfl⟩
theorem w_895 : Cond.fieldLink RX10 86 "AshLoansModel" "at" "I" ∈ lw_gd := za_gd 895 (by decide +kernel) rfl
theorem pf_X10_86 : za_FL RX10 86 10 6 23 RX10 TX10 "AshLoansModel" := ⟨rfl, gin_X10, by decide, w_895, rfl⟩
theorem pt_X10_6 : za_FT 6 23 TX10 .int := ⟨rfl, by decide +kernel, ⟨tyX10, tyX10_ok⟩, nmX10⟩
theorem w_1006 : Cond.code yX10_here cX10_here 1 (some .int) ∈ lw_gd := za_gd 1006 (by decide +kernel) rfl
theorem py_X10_here : za_Y yX10_here cX10_here 1 (some .int) 0 := ⟨w_1006, w_85, by decide +kernel⟩
theorem w_1003 : Cond.methodLink RX10 90 yX10_here ∈ lw_gd := za_gd 1003 (by decide +kernel) rfl
theorem w_1005 : Cond.instanceMethod yX10_here ∈ lw_gd := za_gd 1005 (by decide +kernel) rfl
theorem w_s31 : Cond.selects RX10 yX10_here yX10_here ∈ lw_gd := za_gd 31 (by decide +kernel) rfl
theorem pv_X10_90 : za_YV RX10 90 yX10_here := ⟨w_1003, w_1005, w_s31⟩
theorem w_899 : Cond.fieldLink RX10 32 "AshLoansModel" "code" "[I" ∈ lw_gd := za_gd 899 (by decide +kernel) rfl
theorem pf_X10_32 : za_FL RX10 32 10 10 23 RX10 TX10 "AshLoansModel" := ⟨rfl, gin_X10, by decide, w_899, rfl⟩
theorem w_900 : Cond.fieldLink RX10 94 "AshLoansModel" "coded" "I" ∈ lw_gd := za_gd 900 (by decide +kernel) rfl
theorem pf_X10_94 : za_FL RX10 94 10 11 23 RX10 TX10 "AshLoansModel" := ⟨rfl, gin_X10, by decide, w_900, rfl⟩
theorem pt_X10_11 : za_FT 11 23 TX10 .int := ⟨rfl, by decide +kernel, ⟨tyX10, tyX10_ok⟩, nmX10⟩
theorem zk_b124 : (Int8.ofInt 124).toInt32 = 124 := by decide
theorem zk_s20000 : (Int16.ofInt 20000).toInt32 = 20000 := by decide
theorem zk_b38 : (Int8.ofInt 38).toInt32 = 38 := by decide
theorem zk_s20001 : (Int16.ofInt 20001).toInt32 = 20001 := by decide
theorem zk_s20002 : (Int16.ofInt 20002).toInt32 = 20002 := by decide
theorem zk_b61 : (Int8.ofInt 61).toInt32 = 61 := by decide
theorem zk_s20003 : (Int16.ofInt 20003).toInt32 = 20003 := by decide
theorem zk_b62 : (Int8.ofInt 62).toInt32 = 62 := by decide
theorem zk_s20004 : (Int16.ofInt 20004).toInt32 = 20004 := by decide
theorem zk_b43 : (Int8.ofInt 43).toInt32 = 43 := by decide
theorem zk_s20005 : (Int16.ofInt 20005).toInt32 = 20005 := by decide
theorem zk_b45 : (Int8.ofInt 45).toInt32 = 45 := by decide
theorem zk_s20006 : (Int16.ofInt 20006).toInt32 = 20006 := by decide
theorem zk_b42 : (Int8.ofInt 42).toInt32 = 42 := by decide
theorem zk_s20007 : (Int16.ofInt 20007).toInt32 = 20007 := by decide
theorem zk_b47 : (Int8.ofInt 47).toInt32 = 47 := by decide
theorem zk_s20008 : (Int16.ofInt 20008).toInt32 = 20008 := by decide
theorem zk_b37 : (Int8.ofInt 37).toInt32 = 37 := by decide
theorem zk_s20009 : (Int16.ofInt 20009).toInt32 = 20009 := by decide
theorem pt_X10_9 : za_FT 9 23 TX10 .boolean := ⟨rfl, by decide +kernel, ⟨tyX10, tyX10_ok⟩, nmX10⟩
theorem zk_s10000 : (Int16.ofInt 10000).toInt32 = 10000 := by decide
theorem w_896 : Cond.fieldLink RX10 130 "AshLoansModel" "open" "I" ∈ lw_gd := za_gd 896 (by decide +kernel) rfl
theorem pf_X10_130 : za_FL RX10 130 10 7 23 RX10 TX10 "AshLoansModel" := ⟨rfl, gin_X10, by decide, w_896, rfl⟩
theorem pt_X10_7 : za_FT 7 23 TX10 .int := ⟨rfl, by decide +kernel, ⟨tyX10, tyX10_ok⟩, nmX10⟩
theorem zk_s20010 : (Int16.ofInt 20010).toInt32 = 20010 := by decide
theorem w_1014 : Cond.code yX10_takes cX10_takes 3 (some .boolean) ∈ lw_gd := za_gd 1014 (by decide +kernel) rfl
theorem py_X10_takes : za_Y yX10_takes cX10_takes 3 (some .boolean) 1 := ⟨w_1014, w_85, by decide +kernel⟩
theorem w_1011 : Cond.methodLink RX10 100 yX10_takes ∈ lw_gd := za_gd 1011 (by decide +kernel) rfl
theorem w_1013 : Cond.instanceMethod yX10_takes ∈ lw_gd := za_gd 1013 (by decide +kernel) rfl
theorem w_s33 : Cond.selects RX10 yX10_takes yX10_takes ∈ lw_gd := za_gd 33 (by decide +kernel) rfl
theorem pv_X10_100 : za_YV RX10 100 yX10_takes := ⟨w_1011, w_1013, w_s33⟩
theorem w_986 : Cond.code yX10_both cX10_both 1 none ∈ lw_gd := za_gd 986 (by decide +kernel) rfl
theorem py_X10_both : za_Y yX10_both cX10_both 1 none 0 := ⟨w_986, w_85, by decide +kernel⟩
theorem w_983 : Cond.methodLink RX10 97 yX10_both ∈ lw_gd := za_gd 983 (by decide +kernel) rfl
theorem w_985 : Cond.instanceMethod yX10_both ∈ lw_gd := za_gd 985 (by decide +kernel) rfl
theorem w_s26 : Cond.selects RX10 yX10_both yX10_both ∈ lw_gd := za_gd 26 (by decide +kernel) rfl
theorem pv_X10_97 : za_YV RX10 97 yX10_both := ⟨w_983, w_985, w_s26⟩
theorem w_1010 : Cond.code yX10_codes cX10_codes 2 none ∈ lw_gd := za_gd 1010 (by decide +kernel) rfl
theorem py_X10_codes : za_Y yX10_codes cX10_codes 2 none 1 := ⟨w_1010, w_85, by decide +kernel⟩
theorem w_1007 : Cond.methodLink RX10 104 yX10_codes ∈ lw_gd := za_gd 1007 (by decide +kernel) rfl
theorem w_1009 : Cond.instanceMethod yX10_codes ∈ lw_gd := za_gd 1009 (by decide +kernel) rfl
theorem w_s32 : Cond.selects RX10 yX10_codes yX10_codes ∈ lw_gd := za_gd 32 (by decide +kernel) rfl
theorem pv_X10_104 : za_YV RX10 104 yX10_codes := ⟨w_1007, w_1009, w_s32⟩
theorem w_990 : Cond.code yX10_compared cX10_compared 2 none ∈ lw_gd := za_gd 990 (by decide +kernel) rfl
theorem py_X10_compared : za_Y yX10_compared cX10_compared 2 none 0 := ⟨w_990, w_85, by decide +kernel⟩
theorem w_987 : Cond.methodLink RX10 108 yX10_compared ∈ lw_gd := za_gd 987 (by decide +kernel) rfl
theorem w_989 : Cond.instanceMethod yX10_compared ∈ lw_gd := za_gd 989 (by decide +kernel) rfl
theorem w_s27 : Cond.selects RX10 yX10_compared yX10_compared ∈ lw_gd := za_gd 27 (by decide +kernel) rfl
theorem pv_X10_108 : za_YV RX10 108 yX10_compared := ⟨w_987, w_989, w_s27⟩
theorem w_994 : Cond.code yX10_sum cX10_sum 2 none ∈ lw_gd := za_gd 994 (by decide +kernel) rfl
theorem py_X10_sum : za_Y yX10_sum cX10_sum 2 none 0 := ⟨w_994, w_85, by decide +kernel⟩
theorem w_991 : Cond.methodLink RX10 111 yX10_sum ∈ lw_gd := za_gd 991 (by decide +kernel) rfl
theorem w_993 : Cond.instanceMethod yX10_sum ∈ lw_gd := za_gd 993 (by decide +kernel) rfl
theorem w_s28 : Cond.selects RX10 yX10_sum yX10_sum ∈ lw_gd := za_gd 28 (by decide +kernel) rfl
theorem pv_X10_111 : za_YV RX10 111 yX10_sum := ⟨w_991, w_993, w_s28⟩
theorem w_998 : Cond.code yX10_product cX10_product 2 none ∈ lw_gd := za_gd 998 (by decide +kernel) rfl
theorem py_X10_product : za_Y yX10_product cX10_product 2 none 0 := ⟨w_998, w_85, by decide +kernel⟩
theorem w_995 : Cond.methodLink RX10 114 yX10_product ∈ lw_gd := za_gd 995 (by decide +kernel) rfl
theorem w_997 : Cond.instanceMethod yX10_product ∈ lw_gd := za_gd 997 (by decide +kernel) rfl
theorem w_s29 : Cond.selects RX10 yX10_product yX10_product ∈ lw_gd := za_gd 29 (by decide +kernel) rfl
theorem pv_X10_114 : za_YV RX10 114 yX10_product := ⟨w_995, w_997, w_s29⟩
theorem w_1002 : Cond.code yX10_one cX10_one 4 none ∈ lw_gd := za_gd 1002 (by decide +kernel) rfl
theorem py_X10_one : za_Y yX10_one cX10_one 4 none 0 := ⟨w_1002, w_85, by decide +kernel⟩
theorem w_999 : Cond.methodLink RX10 117 yX10_one ∈ lw_gd := za_gd 999 (by decide +kernel) rfl
theorem w_1001 : Cond.instanceMethod yX10_one ∈ lw_gd := za_gd 1001 (by decide +kernel) rfl
theorem w_s30 : Cond.selects RX10 yX10_one yX10_one ∈ lw_gd := za_gd 30 (by decide +kernel) rfl
theorem pv_X10_117 : za_YV RX10 117 yX10_one := ⟨w_999, w_1001, w_s30⟩
theorem w_982 : Cond.code yX10_either cX10_either 1 none ∈ lw_gd := za_gd 982 (by decide +kernel) rfl
theorem py_X10_either : za_Y yX10_either cX10_either 1 none 0 := ⟨w_982, w_85, by decide +kernel⟩
theorem w_979 : Cond.methodLink RX10 133 yX10_either ∈ lw_gd := za_gd 979 (by decide +kernel) rfl
theorem w_981 : Cond.instanceMethod yX10_either ∈ lw_gd := za_gd 981 (by decide +kernel) rfl
theorem w_s25 : Cond.selects RX10 yX10_either yX10_either ∈ lw_gd := za_gd 25 (by decide +kernel) rfl
theorem pv_X10_133 : za_YV RX10 133 yX10_either := ⟨w_979, w_981, w_s25⟩
theorem w_1018 : Cond.code yX10_nameOf cX10_nameOf 4 (some .int) ∈ lw_gd := za_gd 1018 (by decide +kernel) rfl
theorem py_X10_nameOf : za_Y yX10_nameOf cX10_nameOf 4 (some .int) 1 := ⟨w_1018, w_85, by decide +kernel⟩
theorem w_1015 : Cond.methodLink RX10 136 yX10_nameOf ∈ lw_gd := za_gd 1015 (by decide +kernel) rfl
theorem w_1017 : Cond.instanceMethod yX10_nameOf ∈ lw_gd := za_gd 1017 (by decide +kernel) rfl
theorem w_s34 : Cond.selects RX10 yX10_nameOf yX10_nameOf ∈ lw_gd := za_gd 34 (by decide +kernel) rfl
theorem pv_X10_136 : za_YV RX10 136 yX10_nameOf := ⟨w_1015, w_1017, w_s34⟩
theorem w_897 : Cond.fieldLink RX10 120 "AshLoansModel" "use" "I" ∈ lw_gd := za_gd 897 (by decide +kernel) rfl
theorem pf_X10_120 : za_FL RX10 120 10 8 23 RX10 TX10 "AshLoansModel" := ⟨rfl, gin_X10, by decide, w_897, rfl⟩
theorem pt_X10_8 : za_FT 8 23 TX10 .int := ⟨rfl, by decide +kernel, ⟨tyX10, tyX10_ok⟩, nmX10⟩
theorem zk_s175 : (Int16.ofInt 175).toInt32 = 175 := by decide
theorem zk_b52 : (Int8.ofInt 52).toInt32 = 52 := by decide
theorem w_902 : Cond.fieldLink RX10 38 "AshLoansModel" "pile" "[I" ∈ lw_gd := za_gd 902 (by decide +kernel) rfl
theorem pf_X10_38 : za_FL RX10 38 10 13 23 RX10 TX10 "AshLoansModel" := ⟨rfl, gin_X10, by decide, w_902, rfl⟩
theorem w_901 : Cond.fieldLink RX10 35 "AshLoansModel" "named" "[I" ∈ lw_gd := za_gd 901 (by decide +kernel) rfl
theorem pf_X10_35 : za_FL RX10 35 10 12 23 RX10 TX10 "AshLoansModel" := ⟨rfl, gin_X10, by decide, w_901, rfl⟩
theorem w_1085 : Cond.code yX10_done cX10_done 3 (some .int) ∈ lw_gd := za_gd 1085 (by decide +kernel) rfl
theorem py_X10_done : za_Y yX10_done cX10_done 3 (some .int) 3 := ⟨w_1085, w_85, by decide +kernel⟩
theorem w_1083 : Cond.methodLink RX10 139 yX10_done ∈ lw_gd := za_gd 1083 (by decide +kernel) rfl
theorem w_1084 : Cond.static yX10_done ∈ lw_gd := za_gd 1084 (by decide +kernel) rfl
theorem ps_X10_139 : za_YS RX10 139 yX10_done := ⟨w_1083, w_1084⟩
theorem w_1078 : Cond.code yX10_hasText cX10_hasText 2 (some .boolean) ∈ lw_gd := za_gd 1078 (by decide +kernel) rfl
theorem py_X10_hasText : za_Y yX10_hasText cX10_hasText 2 (some .boolean) 1 := ⟨w_1078, w_85, by decide +kernel⟩
theorem w_1075 : Cond.methodLink RX10 143 yX10_hasText ∈ lw_gd := za_gd 1075 (by decide +kernel) rfl
theorem w_1077 : Cond.instanceMethod yX10_hasText ∈ lw_gd := za_gd 1077 (by decide +kernel) rfl
theorem w_s36 : Cond.selects RX10 yX10_hasText yX10_hasText ∈ lw_gd := za_gd 36 (by decide +kernel) rfl
theorem pv_X10_143 : za_YV RX10 143 yX10_hasText := ⟨w_1075, w_1077, w_s36⟩
theorem w_1088 : Cond.code yX10_held cX10_held 3 (some .int) ∈ lw_gd := za_gd 1088 (by decide +kernel) rfl
theorem py_X10_held : za_Y yX10_held cX10_held 3 (some .int) 3 := ⟨w_1088, w_85, by decide +kernel⟩
theorem w_1086 : Cond.methodLink RX10 149 yX10_held ∈ lw_gd := za_gd 1086 (by decide +kernel) rfl
theorem w_1087 : Cond.static yX10_held ∈ lw_gd := za_gd 1087 (by decide +kernel) rfl
theorem ps_X10_149 : za_YS RX10 149 yX10_held := ⟨w_1086, w_1087⟩
theorem w_1082 : Cond.code yX10_worked cX10_worked 5 (some .int) ∈ lw_gd := za_gd 1082 (by decide +kernel) rfl
theorem py_X10_worked : za_Y yX10_worked cX10_worked 5 (some .int) 1 := ⟨w_1082, w_85, by decide +kernel⟩
theorem w_1079 : Cond.methodLink RX10 146 yX10_worked ∈ lw_gd := za_gd 1079 (by decide +kernel) rfl
theorem w_1081 : Cond.instanceMethod yX10_worked ∈ lw_gd := za_gd 1081 (by decide +kernel) rfl
theorem w_s37 : Cond.selects RX10 yX10_worked yX10_worked ∈ lw_gd := za_gd 37 (by decide +kernel) rfl
theorem pv_X10_146 : za_YV RX10 146 yX10_worked := ⟨w_1079, w_1081, w_s37⟩
theorem w_1074 : Cond.code yX10_given cX10_given 6 (some .int) ∈ lw_gd := za_gd 1074 (by decide +kernel) rfl
theorem py_X10_given : za_Y yX10_given cX10_given 6 (some .int) 4 := ⟨w_1074, w_85, by decide +kernel⟩
theorem w_1071 : Cond.methodLink RX10 152 yX10_given ∈ lw_gd := za_gd 1071 (by decide +kernel) rfl
theorem w_1073 : Cond.instanceMethod yX10_given ∈ lw_gd := za_gd 1073 (by decide +kernel) rfl
theorem w_s35 : Cond.selects RX10 yX10_given yX10_given ∈ lw_gd := za_gd 35 (by decide +kernel) rfl
theorem pv_X10_152 : za_YV RX10 152 yX10_given := ⟨w_1071, w_1073, w_s35⟩
theorem w_1106 : Cond.code yX10_ashAt cX10_ashAt 2 (some .int) ∈ lw_gd := za_gd 1106 (by decide +kernel) rfl
theorem py_X10_ashAt : za_Y yX10_ashAt cX10_ashAt 2 (some .int) 2 := ⟨w_1106, w_85, by decide +kernel⟩
theorem w_1104 : Cond.methodLink RX10 156 yX10_ashAt ∈ lw_gd := za_gd 1104 (by decide +kernel) rfl
theorem w_1105 : Cond.static yX10_ashAt ∈ lw_gd := za_gd 1105 (by decide +kernel) rfl
theorem ps_X10_156 : za_YS RX10 156 yX10_ashAt := ⟨w_1104, w_1105⟩
theorem zk_b27 : (Int8.ofInt 27).toInt32 = 27 := by decide
theorem zk_b55 : (Int8.ofInt 55).toInt32 = 55 := by decide
theorem w_1174 : Cond.code yX10_loanAt cX10_loanAt 2 (some .int) ∈ lw_gd := za_gd 1174 (by decide +kernel) rfl
theorem py_X10_loanAt : za_Y yX10_loanAt cX10_loanAt 2 (some .int) 2 := ⟨w_1174, w_85, by decide +kernel⟩
theorem w_1172 : Cond.methodLink RX10 159 yX10_loanAt ∈ lw_gd := za_gd 1172 (by decide +kernel) rfl
theorem w_1173 : Cond.static yX10_loanAt ∈ lw_gd := za_gd 1173 (by decide +kernel) rfl
theorem ps_X10_159 : za_YS RX10 159 yX10_loanAt := ⟨w_1172, w_1173⟩
theorem w_1109 : Cond.code yX10_storeAt cX10_storeAt 2 (some .int) ∈ lw_gd := za_gd 1109 (by decide +kernel) rfl
theorem py_X10_storeAt : za_Y yX10_storeAt cX10_storeAt 2 (some .int) 2 := ⟨w_1109, w_85, by decide +kernel⟩
theorem w_1107 : Cond.methodLink RX10 162 yX10_storeAt ∈ lw_gd := za_gd 1107 (by decide +kernel) rfl
theorem w_1108 : Cond.static yX10_storeAt ∈ lw_gd := za_gd 1108 (by decide +kernel) rfl
theorem ps_X10_162 : za_YS RX10 162 yX10_storeAt := ⟨w_1107, w_1108⟩
theorem w_1099 : Cond.code yX10_isKindM cX10_isKindM 1 (some .boolean) ∈ lw_gd := za_gd 1099 (by decide +kernel) rfl
theorem py_X10_isKindM : za_Y yX10_isKindM cX10_isKindM 1 (some .boolean) 1 := ⟨w_1099, w_85, by decide +kernel⟩
theorem w_1097 : Cond.methodLink RX10 165 yX10_isKindM ∈ lw_gd := za_gd 1097 (by decide +kernel) rfl
theorem w_1098 : Cond.static yX10_isKindM ∈ lw_gd := za_gd 1098 (by decide +kernel) rfl
theorem ps_X10_165 : za_YS RX10 165 yX10_isKindM := ⟨w_1097, w_1098⟩
theorem w_1103 : Cond.code yX10_ashComes cX10_ashComes 4 (some .int) ∈ lw_gd := za_gd 1103 (by decide +kernel) rfl
theorem py_X10_ashComes : za_Y yX10_ashComes cX10_ashComes 4 (some .int) 1 := ⟨w_1103, w_85, by decide +kernel⟩
theorem w_1100 : Cond.methodLink RX10 168 yX10_ashComes ∈ lw_gd := za_gd 1100 (by decide +kernel) rfl
theorem w_1102 : Cond.instanceMethod yX10_ashComes ∈ lw_gd := za_gd 1102 (by decide +kernel) rfl
theorem w_s38 : Cond.selects RX10 yX10_ashComes yX10_ashComes ∈ lw_gd := za_gd 38 (by decide +kernel) rfl
theorem pv_X10_168 : za_YV RX10 168 yX10_ashComes := ⟨w_1100, w_1102, w_s38⟩
theorem w_1117 : Cond.code yX10_isAsh cX10_isAsh 2 (some .boolean) ∈ lw_gd := za_gd 1117 (by decide +kernel) rfl
theorem py_X10_isAsh : za_Y yX10_isAsh cX10_isAsh 2 (some .boolean) 1 := ⟨w_1117, w_85, by decide +kernel⟩
theorem w_1114 : Cond.methodLink RX10 171 yX10_isAsh ∈ lw_gd := za_gd 1114 (by decide +kernel) rfl
theorem w_1116 : Cond.instanceMethod yX10_isAsh ∈ lw_gd := za_gd 1116 (by decide +kernel) rfl
theorem w_s39 : Cond.selects RX10 yX10_isAsh yX10_isAsh ∈ lw_gd := za_gd 39 (by decide +kernel) rfl
theorem pv_X10_171 : za_YV RX10 171 yX10_isAsh := ⟨w_1114, w_1116, w_s39⟩
theorem w_1125 : Cond.code yX10_ashIs cX10_ashIs 3 (some .int) ∈ lw_gd := za_gd 1125 (by decide +kernel) rfl
theorem py_X10_ashIs : za_Y yX10_ashIs cX10_ashIs 3 (some .int) 2 := ⟨w_1125, w_85, by decide +kernel⟩
theorem w_1122 : Cond.methodLink RX10 177 yX10_ashIs ∈ lw_gd := za_gd 1122 (by decide +kernel) rfl
theorem w_1124 : Cond.instanceMethod yX10_ashIs ∈ lw_gd := za_gd 1124 (by decide +kernel) rfl
theorem w_s41 : Cond.selects RX10 yX10_ashIs yX10_ashIs ∈ lw_gd := za_gd 41 (by decide +kernel) rfl
theorem pv_X10_177 : za_YV RX10 177 yX10_ashIs := ⟨w_1122, w_1124, w_s41⟩
theorem w_1121 : Cond.code yX10_allOf cX10_allOf 4 (some .int) ∈ lw_gd := za_gd 1121 (by decide +kernel) rfl
theorem py_X10_allOf : za_Y yX10_allOf cX10_allOf 4 (some .int) 1 := ⟨w_1121, w_85, by decide +kernel⟩
theorem w_1118 : Cond.methodLink RX10 174 yX10_allOf ∈ lw_gd := za_gd 1118 (by decide +kernel) rfl
theorem w_1120 : Cond.instanceMethod yX10_allOf ∈ lw_gd := za_gd 1120 (by decide +kernel) rfl
theorem w_s40 : Cond.selects RX10 yX10_allOf yX10_allOf ∈ lw_gd := za_gd 40 (by decide +kernel) rfl
theorem pv_X10_174 : za_YV RX10 174 yX10_allOf := ⟨w_1118, w_1120, w_s40⟩
theorem w_1133 : Cond.code yX10_turn cX10_turn 4 (some .int) ∈ lw_gd := za_gd 1133 (by decide +kernel) rfl
theorem py_X10_turn : za_Y yX10_turn cX10_turn 4 (some .int) 2 := ⟨w_1133, w_85, by decide +kernel⟩
theorem w_1130 : Cond.methodLink RX10 180 yX10_turn ∈ lw_gd := za_gd 1130 (by decide +kernel) rfl
theorem w_1132 : Cond.instanceMethod yX10_turn ∈ lw_gd := za_gd 1132 (by decide +kernel) rfl
theorem w_s42 : Cond.selects RX10 yX10_turn yX10_turn ∈ lw_gd := za_gd 42 (by decide +kernel) rfl
theorem pv_X10_180 : za_YV RX10 180 yX10_turn := ⟨w_1130, w_1132, w_s42⟩
theorem w_1147 : Cond.code yX10_above cX10_above 1 (some .int) ∈ lw_gd := za_gd 1147 (by decide +kernel) rfl
theorem py_X10_above : za_Y yX10_above cX10_above 1 (some .int) 1 := ⟨w_1147, w_85, by decide +kernel⟩
theorem w_1145 : Cond.methodLink RX10 183 yX10_above ∈ lw_gd := za_gd 1145 (by decide +kernel) rfl
theorem w_1146 : Cond.static yX10_above ∈ lw_gd := za_gd 1146 (by decide +kernel) rfl
theorem ps_X10_183 : za_YS RX10 183 yX10_above := ⟨w_1145, w_1146⟩
theorem w_1148 : Cond.constant RX10 190 (-1000000005) ∈ lw_gd := za_gd 1148 (by decide +kernel) rfl
theorem w_1144 : Cond.code yX10_isUnder cX10_isUnder 3 (some .boolean) ∈ lw_gd := za_gd 1144 (by decide +kernel) rfl
theorem py_X10_isUnder : za_Y yX10_isUnder cX10_isUnder 3 (some .boolean) 2 := ⟨w_1144, w_85, by decide +kernel⟩
theorem w_1142 : Cond.methodLink RX10 186 yX10_isUnder ∈ lw_gd := za_gd 1142 (by decide +kernel) rfl
theorem w_1143 : Cond.static yX10_isUnder ∈ lw_gd := za_gd 1143 (by decide +kernel) rfl
theorem ps_X10_186 : za_YS RX10 186 yX10_isUnder := ⟨w_1142, w_1143⟩
theorem w_1155 : Cond.code yX10_potterAt cX10_potterAt 2 (some .int) ∈ lw_gd := za_gd 1155 (by decide +kernel) rfl
theorem py_X10_potterAt : za_Y yX10_potterAt cX10_potterAt 2 (some .int) 2 := ⟨w_1155, w_85, by decide +kernel⟩
theorem w_1153 : Cond.methodLink RX10 191 yX10_potterAt ∈ lw_gd := za_gd 1153 (by decide +kernel) rfl
theorem w_1154 : Cond.static yX10_potterAt ∈ lw_gd := za_gd 1154 (by decide +kernel) rfl
theorem ps_X10_191 : za_YS RX10 191 yX10_potterAt := ⟨w_1153, w_1154⟩
theorem w_1171 : Cond.code yX10_loanIs cX10_loanIs 3 (some .int) ∈ lw_gd := za_gd 1171 (by decide +kernel) rfl
theorem py_X10_loanIs : za_Y yX10_loanIs cX10_loanIs 3 (some .int) 2 := ⟨w_1171, w_85, by decide +kernel⟩
theorem w_1168 : Cond.methodLink RX10 194 yX10_loanIs ∈ lw_gd := za_gd 1168 (by decide +kernel) rfl
theorem w_1170 : Cond.instanceMethod yX10_loanIs ∈ lw_gd := za_gd 1170 (by decide +kernel) rfl
theorem w_s45 : Cond.selects RX10 yX10_loanIs yX10_loanIs ∈ lw_gd := za_gd 45 (by decide +kernel) rfl
theorem pv_X10_194 : za_YV RX10 194 yX10_loanIs := ⟨w_1168, w_1170, w_s45⟩
theorem w_1167 : Cond.code yX10_loansOf cX10_loansOf 5 (some .int) ∈ lw_gd := za_gd 1167 (by decide +kernel) rfl
theorem py_X10_loansOf : za_Y yX10_loansOf cX10_loansOf 5 (some .int) 2 := ⟨w_1167, w_85, by decide +kernel⟩
theorem w_1164 : Cond.methodLink RX10 200 yX10_loansOf ∈ lw_gd := za_gd 1164 (by decide +kernel) rfl
theorem w_1166 : Cond.instanceMethod yX10_loansOf ∈ lw_gd := za_gd 1166 (by decide +kernel) rfl
theorem w_s44 : Cond.selects RX10 yX10_loansOf yX10_loansOf ∈ lw_gd := za_gd 44 (by decide +kernel) rfl
theorem pv_X10_200 : za_YV RX10 200 yX10_loansOf := ⟨w_1164, w_1166, w_s44⟩
theorem w_1163 : Cond.code yX10_isPotter cX10_isPotter 2 (some .boolean) ∈ lw_gd := za_gd 1163 (by decide +kernel) rfl
theorem py_X10_isPotter : za_Y yX10_isPotter cX10_isPotter 2 (some .boolean) 1 := ⟨w_1163, w_85, by decide +kernel⟩
theorem w_1160 : Cond.methodLink RX10 197 yX10_isPotter ∈ lw_gd := za_gd 1160 (by decide +kernel) rfl
theorem w_1162 : Cond.instanceMethod yX10_isPotter ∈ lw_gd := za_gd 1162 (by decide +kernel) rfl
theorem w_s43 : Cond.selects RX10 yX10_isPotter yX10_isPotter ∈ lw_gd := za_gd 43 (by decide +kernel) rfl
theorem pv_X10_197 : za_YV RX10 197 yX10_isPotter := ⟨w_1160, w_1162, w_s43⟩
theorem w_1191 : Cond.constant RX10 203 99999 ∈ lw_gd := za_gd 1191 (by decide +kernel) rfl
theorem w_1194 : Cond.code yX10_digit cX10_digit 4 (some .int) ∈ lw_gd := za_gd 1194 (by decide +kernel) rfl
theorem py_X10_digit : za_Y yX10_digit cX10_digit 4 (some .int) 2 := ⟨w_1194, w_85, by decide +kernel⟩
theorem w_1192 : Cond.methodLink RX10 204 yX10_digit ∈ lw_gd := za_gd 1192 (by decide +kernel) rfl
theorem w_1193 : Cond.static yX10_digit ∈ lw_gd := za_gd 1193 (by decide +kernel) rfl
theorem ps_X10_204 : za_YS RX10 204 yX10_digit := ⟨w_1192, w_1193⟩
theorem w_1212 : Cond.code yX10_rest cX10_rest 1 (some .int) ∈ lw_gd := za_gd 1212 (by decide +kernel) rfl
theorem py_X10_rest : za_Y yX10_rest cX10_rest 1 (some .int) 1 := ⟨w_1212, w_85, by decide +kernel⟩
theorem w_1210 : Cond.methodLink RX10 210 yX10_rest ∈ lw_gd := za_gd 1210 (by decide +kernel) rfl
theorem w_1211 : Cond.static yX10_rest ∈ lw_gd := za_gd 1211 (by decide +kernel) rfl
theorem ps_X10_210 : za_YS RX10 210 yX10_rest := ⟨w_1210, w_1211⟩
theorem w_1209 : Cond.code yX10_colourOf cX10_colourOf 6 (some .int) ∈ lw_gd := za_gd 1209 (by decide +kernel) rfl
theorem py_X10_colourOf : za_Y yX10_colourOf cX10_colourOf 6 (some .int) 2 := ⟨w_1209, w_85, by decide +kernel⟩
theorem w_1206 : Cond.methodLink RX10 207 yX10_colourOf ∈ lw_gd := za_gd 1206 (by decide +kernel) rfl
theorem w_1208 : Cond.instanceMethod yX10_colourOf ∈ lw_gd := za_gd 1208 (by decide +kernel) rfl
theorem w_s49 : Cond.selects RX10 yX10_colourOf yX10_colourOf ∈ lw_gd := za_gd 49 (by decide +kernel) rfl
theorem pv_X10_207 : za_YV RX10 207 yX10_colourOf := ⟨w_1206, w_1208, w_s49⟩
theorem w_1190 : Cond.code yX10_isMix cX10_isMix 4 (some .boolean) ∈ lw_gd := za_gd 1190 (by decide +kernel) rfl
theorem py_X10_isMix : za_Y yX10_isMix cX10_isMix 4 (some .boolean) 1 := ⟨w_1190, w_85, by decide +kernel⟩
theorem w_1187 : Cond.methodLink RX10 213 yX10_isMix ∈ lw_gd := za_gd 1187 (by decide +kernel) rfl
theorem w_1189 : Cond.instanceMethod yX10_isMix ∈ lw_gd := za_gd 1189 (by decide +kernel) rfl
theorem w_s46 : Cond.selects RX10 yX10_isMix yX10_isMix ∈ lw_gd := za_gd 46 (by decide +kernel) rfl
theorem pv_X10_213 : za_YV RX10 213 yX10_isMix := ⟨w_1187, w_1189, w_s46⟩
theorem w_1197 : Cond.code yX10_isDigit cX10_isDigit 1 (some .boolean) ∈ lw_gd := za_gd 1197 (by decide +kernel) rfl
theorem py_X10_isDigit : za_Y yX10_isDigit cX10_isDigit 1 (some .boolean) 1 := ⟨w_1197, w_85, by decide +kernel⟩
theorem w_1195 : Cond.methodLink RX10 216 yX10_isDigit ∈ lw_gd := za_gd 1195 (by decide +kernel) rfl
theorem w_1196 : Cond.static yX10_isDigit ∈ lw_gd := za_gd 1196 (by decide +kernel) rfl
theorem ps_X10_216 : za_YS RX10 216 yX10_isDigit := ⟨w_1195, w_1196⟩
theorem w_1201 : Cond.code yX10_isForbidden cX10_isForbidden 6 (some .boolean) ∈ lw_gd := za_gd 1201 (by decide +kernel) rfl
theorem py_X10_isForbidden : za_Y yX10_isForbidden cX10_isForbidden 6 (some .boolean) 2 := ⟨w_1201, w_85, by decide +kernel⟩
theorem w_1198 : Cond.methodLink RX10 219 yX10_isForbidden ∈ lw_gd := za_gd 1198 (by decide +kernel) rfl
theorem w_1200 : Cond.instanceMethod yX10_isForbidden ∈ lw_gd := za_gd 1200 (by decide +kernel) rfl
theorem w_s47 : Cond.selects RX10 yX10_isForbidden yX10_isForbidden ∈ lw_gd := za_gd 47 (by decide +kernel) rfl
theorem pv_X10_219 : za_YV RX10 219 yX10_isForbidden := ⟨w_1198, w_1200, w_s47⟩
theorem w_1205 : Cond.code yX10_mixColour cX10_mixColour 5 (some .int) ∈ lw_gd := za_gd 1205 (by decide +kernel) rfl
theorem py_X10_mixColour : za_Y yX10_mixColour cX10_mixColour 5 (some .int) 2 := ⟨w_1205, w_85, by decide +kernel⟩
theorem w_1202 : Cond.methodLink RX10 222 yX10_mixColour ∈ lw_gd := za_gd 1202 (by decide +kernel) rfl
theorem w_1204 : Cond.instanceMethod yX10_mixColour ∈ lw_gd := za_gd 1204 (by decide +kernel) rfl
theorem w_s48 : Cond.selects RX10 yX10_mixColour yX10_mixColour ∈ lw_gd := za_gd 48 (by decide +kernel) rfl
theorem pv_X10_222 : za_YV RX10 222 yX10_mixColour := ⟨w_1202, w_1204, w_s48⟩
theorem w_1217 : Cond.constant RX10 225 (-1000000002) ∈ lw_gd := za_gd 1217 (by decide +kernel) rfl
theorem w_1222 : Cond.constant RX10 229 (-1000000003) ∈ lw_gd := za_gd 1222 (by decide +kernel) rfl
theorem w_1221 : Cond.code yX10_hasAll cX10_hasAll 5 (some .boolean) ∈ lw_gd := za_gd 1221 (by decide +kernel) rfl
theorem py_X10_hasAll : za_Y yX10_hasAll cX10_hasAll 5 (some .boolean) 2 := ⟨w_1221, w_85, by decide +kernel⟩
theorem w_1218 : Cond.methodLink RX10 226 yX10_hasAll ∈ lw_gd := za_gd 1218 (by decide +kernel) rfl
theorem w_1220 : Cond.instanceMethod yX10_hasAll ∈ lw_gd := za_gd 1220 (by decide +kernel) rfl
theorem w_s50 : Cond.selects RX10 yX10_hasAll yX10_hasAll ∈ lw_gd := za_gd 50 (by decide +kernel) rfl
theorem pv_X10_226 : za_YV RX10 226 yX10_hasAll := ⟨w_1218, w_1220, w_s50⟩
theorem w_1226 : Cond.code yX10_firesNow cX10_firesNow 5 (some .int) ∈ lw_gd := za_gd 1226 (by decide +kernel) rfl
theorem py_X10_firesNow : za_Y yX10_firesNow cX10_firesNow 5 (some .int) 3 := ⟨w_1226, w_85, by decide +kernel⟩
theorem w_1223 : Cond.methodLink RX10 230 yX10_firesNow ∈ lw_gd := za_gd 1223 (by decide +kernel) rfl
theorem w_1225 : Cond.instanceMethod yX10_firesNow ∈ lw_gd := za_gd 1225 (by decide +kernel) rfl
theorem w_s51 : Cond.selects RX10 yX10_firesNow yX10_firesNow ∈ lw_gd := za_gd 51 (by decide +kernel) rfl
theorem pv_X10_230 : za_YV RX10 230 yX10_firesNow := ⟨w_1223, w_1225, w_s51⟩
theorem w_1234 : Cond.code yX10_canLend cX10_canLend 5 (some .boolean) ∈ lw_gd := za_gd 1234 (by decide +kernel) rfl
theorem py_X10_canLend : za_Y yX10_canLend cX10_canLend 5 (some .boolean) 4 := ⟨w_1234, w_85, by decide +kernel⟩
theorem w_1231 : Cond.methodLink RX10 233 yX10_canLend ∈ lw_gd := za_gd 1231 (by decide +kernel) rfl
theorem w_1233 : Cond.instanceMethod yX10_canLend ∈ lw_gd := za_gd 1233 (by decide +kernel) rfl
theorem w_s52 : Cond.selects RX10 yX10_canLend yX10_canLend ∈ lw_gd := za_gd 52 (by decide +kernel) rfl
theorem pv_X10_233 : za_YV RX10 233 yX10_canLend := ⟨w_1231, w_1233, w_s52⟩
theorem w_1238 : Cond.code yX10_lendNow cX10_lendNow 7 (some .int) ∈ lw_gd := za_gd 1238 (by decide +kernel) rfl
theorem py_X10_lendNow : za_Y yX10_lendNow cX10_lendNow 7 (some .int) 5 := ⟨w_1238, w_85, by decide +kernel⟩
theorem w_1235 : Cond.methodLink RX10 237 yX10_lendNow ∈ lw_gd := za_gd 1235 (by decide +kernel) rfl
theorem w_1237 : Cond.instanceMethod yX10_lendNow ∈ lw_gd := za_gd 1237 (by decide +kernel) rfl
theorem w_s53 : Cond.selects RX10 yX10_lendNow yX10_lendNow ∈ lw_gd := za_gd 53 (by decide +kernel) rfl
theorem pv_X10_237 : za_YV RX10 237 yX10_lendNow := ⟨w_1235, w_1237, w_s53⟩
theorem w_1246 : Cond.code yX10_isLoan cX10_isLoan 2 (some .boolean) ∈ lw_gd := za_gd 1246 (by decide +kernel) rfl
theorem py_X10_isLoan : za_Y yX10_isLoan cX10_isLoan 2 (some .boolean) 1 := ⟨w_1246, w_85, by decide +kernel⟩
theorem w_1243 : Cond.methodLink RX10 241 yX10_isLoan ∈ lw_gd := za_gd 1243 (by decide +kernel) rfl
theorem w_1245 : Cond.instanceMethod yX10_isLoan ∈ lw_gd := za_gd 1245 (by decide +kernel) rfl
theorem w_s54 : Cond.selects RX10 yX10_isLoan yX10_isLoan ∈ lw_gd := za_gd 54 (by decide +kernel) rfl
theorem pv_X10_241 : za_YV RX10 241 yX10_isLoan := ⟨w_1243, w_1245, w_s54⟩
theorem w_1262 : Cond.code yX10_goes cX10_goes 4 none ∈ lw_gd := za_gd 1262 (by decide +kernel) rfl
theorem py_X10_goes : za_Y yX10_goes cX10_goes 4 none 1 := ⟨w_1262, w_85, by decide +kernel⟩
theorem w_1259 : Cond.methodLink RX10 244 yX10_goes ∈ lw_gd := za_gd 1259 (by decide +kernel) rfl
theorem w_1261 : Cond.instanceMethod yX10_goes ∈ lw_gd := za_gd 1261 (by decide +kernel) rfl
theorem w_s57 : Cond.selects RX10 yX10_goes yX10_goes ∈ lw_gd := za_gd 57 (by decide +kernel) rfl
theorem pv_X10_244 : za_YV RX10 244 yX10_goes := ⟨w_1259, w_1261, w_s57⟩
theorem w_1254 : Cond.code yX10_canGiveBack cX10_canGiveBack 2 (some .boolean) ∈ lw_gd := za_gd 1254 (by decide +kernel) rfl
theorem py_X10_canGiveBack : za_Y yX10_canGiveBack cX10_canGiveBack 2 (some .boolean) 1 := ⟨w_1254, w_85, by decide +kernel⟩
theorem w_1251 : Cond.methodLink RX10 247 yX10_canGiveBack ∈ lw_gd := za_gd 1251 (by decide +kernel) rfl
theorem w_1253 : Cond.instanceMethod yX10_canGiveBack ∈ lw_gd := za_gd 1253 (by decide +kernel) rfl
theorem w_s55 : Cond.selects RX10 yX10_canGiveBack yX10_canGiveBack ∈ lw_gd := za_gd 55 (by decide +kernel) rfl
theorem pv_X10_247 : za_YV RX10 247 yX10_canGiveBack := ⟨w_1251, w_1253, w_s55⟩
theorem w_1258 : Cond.code yX10_givesBack cX10_givesBack 6 (some .int) ∈ lw_gd := za_gd 1258 (by decide +kernel) rfl
theorem py_X10_givesBack : za_Y yX10_givesBack cX10_givesBack 6 (some .int) 1 := ⟨w_1258, w_85, by decide +kernel⟩
theorem w_1255 : Cond.methodLink RX10 250 yX10_givesBack ∈ lw_gd := za_gd 1255 (by decide +kernel) rfl
theorem w_1257 : Cond.instanceMethod yX10_givesBack ∈ lw_gd := za_gd 1257 (by decide +kernel) rfl
theorem w_s56 : Cond.selects RX10 yX10_givesBack yX10_givesBack ∈ lw_gd := za_gd 56 (by decide +kernel) rfl
theorem pv_X10_250 : za_YV RX10 250 yX10_givesBack := ⟨w_1255, w_1257, w_s56⟩
theorem w_1278 : Cond.code yX10_breaksOne cX10_breaksOne 3 none ∈ lw_gd := za_gd 1278 (by decide +kernel) rfl
theorem py_X10_breaksOne : za_Y yX10_breaksOne cX10_breaksOne 3 none 1 := ⟨w_1278, w_85, by decide +kernel⟩
theorem w_1275 : Cond.methodLink RX10 253 yX10_breaksOne ∈ lw_gd := za_gd 1275 (by decide +kernel) rfl
theorem w_1277 : Cond.instanceMethod yX10_breaksOne ∈ lw_gd := za_gd 1277 (by decide +kernel) rfl
theorem w_s60 : Cond.selects RX10 yX10_breaksOne yX10_breaksOne ∈ lw_gd := za_gd 60 (by decide +kernel) rfl
theorem pv_X10_253 : za_YV RX10 253 yX10_breaksOne := ⟨w_1275, w_1277, w_s60⟩
theorem w_1274 : Cond.code yX10_day cX10_day 3 none ∈ lw_gd := za_gd 1274 (by decide +kernel) rfl
theorem py_X10_day : za_Y yX10_day cX10_day 3 none 0 := ⟨w_1274, w_85, by decide +kernel⟩
theorem w_1271 : Cond.methodLink RX10 256 yX10_day ∈ lw_gd := za_gd 1271 (by decide +kernel) rfl
theorem w_1273 : Cond.instanceMethod yX10_day ∈ lw_gd := za_gd 1273 (by decide +kernel) rfl
theorem w_s59 : Cond.selects RX10 yX10_day yX10_day ∈ lw_gd := za_gd 59 (by decide +kernel) rfl
theorem pv_X10_256 : za_YV RX10 256 yX10_day := ⟨w_1271, w_1273, w_s59⟩
theorem w_1270 : Cond.code yX10_daysGo cX10_daysGo 3 none ∈ lw_gd := za_gd 1270 (by decide +kernel) rfl
theorem py_X10_daysGo : za_Y yX10_daysGo cX10_daysGo 3 none 1 := ⟨w_1270, w_85, by decide +kernel⟩
theorem w_1267 : Cond.methodLink RX10 259 yX10_daysGo ∈ lw_gd := za_gd 1267 (by decide +kernel) rfl
theorem w_1269 : Cond.instanceMethod yX10_daysGo ∈ lw_gd := za_gd 1269 (by decide +kernel) rfl
theorem w_s58 : Cond.selects RX10 yX10_daysGo yX10_daysGo ∈ lw_gd := za_gd 58 (by decide +kernel) rfl
theorem pv_X10_259 : za_YV RX10 259 yX10_daysGo := ⟨w_1267, w_1269, w_s58⟩
theorem w_1287 : Cond.constant RX10 262 1103515245 ∈ lw_gd := za_gd 1287 (by decide +kernel) rfl
theorem w_1286 : Cond.code yX10_drawn cX10_drawn 1 (some .int) ∈ lw_gd := za_gd 1286 (by decide +kernel) rfl
theorem py_X10_drawn : za_Y yX10_drawn cX10_drawn 1 (some .int) 0 := ⟨w_1286, w_85, by decide +kernel⟩
theorem w_1283 : Cond.methodLink RX10 263 yX10_drawn ∈ lw_gd := za_gd 1283 (by decide +kernel) rfl
theorem w_1285 : Cond.instanceMethod yX10_drawn ∈ lw_gd := za_gd 1285 (by decide +kernel) rfl
theorem w_s61 : Cond.selects RX10 yX10_drawn yX10_drawn ∈ lw_gd := za_gd 61 (by decide +kernel) rfl
theorem pv_X10_263 : za_YV RX10 263 yX10_drawn := ⟨w_1283, w_1285, w_s61⟩
theorem w_1298 : Cond.code yX10_putBack cX10_putBack 2 (some .int) ∈ lw_gd := za_gd 1298 (by decide +kernel) rfl
theorem py_X10_putBack : za_Y yX10_putBack cX10_putBack 2 (some .int) 1 := ⟨w_1298, w_85, by decide +kernel⟩
theorem w_1295 : Cond.methodLink RX10 266 yX10_putBack ∈ lw_gd := za_gd 1295 (by decide +kernel) rfl
theorem w_1297 : Cond.instanceMethod yX10_putBack ∈ lw_gd := za_gd 1297 (by decide +kernel) rfl
theorem w_s62 : Cond.selects RX10 yX10_putBack yX10_putBack ∈ lw_gd := za_gd 62 (by decide +kernel) rfl
theorem pv_X10_266 : za_YV RX10 266 yX10_putBack := ⟨w_1295, w_1297, w_s62⟩
theorem w_1310 : Cond.constant RX10 269 100000 ∈ lw_gd := za_gd 1310 (by decide +kernel) rfl
theorem w_1309 : Cond.code yX10_mixOf cX10_mixOf 4 (some .int) ∈ lw_gd := za_gd 1309 (by decide +kernel) rfl
theorem py_X10_mixOf : za_Y yX10_mixOf cX10_mixOf 4 (some .int) 1 := ⟨w_1309, w_85, by decide +kernel⟩
theorem w_1307 : Cond.methodLink RX10 270 yX10_mixOf ∈ lw_gd := za_gd 1307 (by decide +kernel) rfl
theorem w_1308 : Cond.static yX10_mixOf ∈ lw_gd := za_gd 1308 (by decide +kernel) rfl
theorem ps_X10_270 : za_YS RX10 270 yX10_mixOf := ⟨w_1307, w_1308⟩
theorem w_1313 : Cond.code yX10_bushels cX10_bushels 3 (some .int) ∈ lw_gd := za_gd 1313 (by decide +kernel) rfl
theorem py_X10_bushels : za_Y yX10_bushels cX10_bushels 3 (some .int) 1 := ⟨w_1313, w_85, by decide +kernel⟩
theorem w_1311 : Cond.methodLink RX10 273 yX10_bushels ∈ lw_gd := za_gd 1311 (by decide +kernel) rfl
theorem w_1312 : Cond.static yX10_bushels ∈ lw_gd := za_gd 1312 (by decide +kernel) rfl
theorem ps_X10_273 : za_YS RX10 273 yX10_bushels := ⟨w_1311, w_1312⟩
theorem w_1321 : Cond.code yX10_heatsOf cX10_heatsOf 5 (some .int) ∈ lw_gd := za_gd 1321 (by decide +kernel) rfl
theorem py_X10_heatsOf : za_Y yX10_heatsOf cX10_heatsOf 5 (some .int) 2 := ⟨w_1321, w_85, by decide +kernel⟩
theorem w_1318 : Cond.methodLink RX10 276 yX10_heatsOf ∈ lw_gd := za_gd 1318 (by decide +kernel) rfl
theorem w_1320 : Cond.instanceMethod yX10_heatsOf ∈ lw_gd := za_gd 1320 (by decide +kernel) rfl
theorem w_s63 : Cond.selects RX10 yX10_heatsOf yX10_heatsOf ∈ lw_gd := za_gd 63 (by decide +kernel) rfl
theorem pv_X10_276 : za_YV RX10 276 yX10_heatsOf := ⟨w_1318, w_1320, w_s63⟩
theorem w_908 : Cond.fieldLink RX10 44 "AshLoansModel" "widths" "[I" ∈ lw_gd := za_gd 908 (by decide +kernel) rfl
theorem pf_X10_44 : za_FL RX10 44 10 19 23 RX10 TX10 "AshLoansModel" := ⟨rfl, gin_X10, by decide, w_908, rfl⟩
theorem w_909 : Cond.fieldLink RX10 47 "AshLoansModel" "sizes" "[I" ∈ lw_gd := za_gd 909 (by decide +kernel) rfl
theorem pf_X10_47 : za_FL RX10 47 10 20 23 RX10 TX10 "AshLoansModel" := ⟨rfl, gin_X10, by decide, w_909, rfl⟩
theorem w_910 : Cond.fieldLink RX10 50 "AshLoansModel" "numbers" "[I" ∈ lw_gd := za_gd 910 (by decide +kernel) rfl
theorem pf_X10_50 : za_FL RX10 50 10 21 23 RX10 TX10 "AshLoansModel" := ⟨rfl, gin_X10, by decide, w_910, rfl⟩
theorem w_1328 : Cond.code yX10_isSheet cX10_isSheet 1 (some .boolean) ∈ lw_gd := za_gd 1328 (by decide +kernel) rfl
theorem py_X10_isSheet : za_Y yX10_isSheet cX10_isSheet 1 (some .boolean) 1 := ⟨w_1328, w_85, by decide +kernel⟩
theorem w_1326 : Cond.methodLink RX10 279 yX10_isSheet ∈ lw_gd := za_gd 1326 (by decide +kernel) rfl
theorem w_1327 : Cond.static yX10_isSheet ∈ lw_gd := za_gd 1327 (by decide +kernel) rfl
theorem ps_X10_279 : za_YS RX10 279 yX10_isSheet := ⟨w_1326, w_1327⟩
theorem w_1336 : Cond.code yX10_has cX10_has 6 (some .int) ∈ lw_gd := za_gd 1336 (by decide +kernel) rfl
theorem py_X10_has : za_Y yX10_has cX10_has 6 (some .int) 3 := ⟨w_1336, w_85, by decide +kernel⟩
theorem w_1333 : Cond.methodLink RX10 282 yX10_has ∈ lw_gd := za_gd 1333 (by decide +kernel) rfl
theorem w_1335 : Cond.instanceMethod yX10_has ∈ lw_gd := za_gd 1335 (by decide +kernel) rfl
theorem w_s64 : Cond.selects RX10 yX10_has yX10_has ∈ lw_gd := za_gd 64 (by decide +kernel) rfl
theorem pv_X10_282 : za_YV RX10 282 yX10_has := ⟨w_1333, w_1335, w_s64⟩
theorem w_1348 : Cond.code yX10_brokenAll cX10_brokenAll 3 (some .int) ∈ lw_gd := za_gd 1348 (by decide +kernel) rfl
theorem py_X10_brokenAll : za_Y yX10_brokenAll cX10_brokenAll 3 (some .int) 0 := ⟨w_1348, w_85, by decide +kernel⟩
theorem w_1345 : Cond.methodLink RX10 285 yX10_brokenAll ∈ lw_gd := za_gd 1345 (by decide +kernel) rfl
theorem w_1347 : Cond.instanceMethod yX10_brokenAll ∈ lw_gd := za_gd 1347 (by decide +kernel) rfl
theorem w_s66 : Cond.selects RX10 yX10_brokenAll yX10_brokenAll ∈ lw_gd := za_gd 66 (by decide +kernel) rfl
theorem pv_X10_285 : za_YV RX10 285 yX10_brokenAll := ⟨w_1345, w_1347, w_s66⟩
theorem zk_s397 : (Int16.ofInt 397).toInt32 = 397 := by decide
theorem w_1344 : Cond.code yX10_brokenIfLent cX10_brokenIfLent 7 (some .int) ∈ lw_gd := za_gd 1344 (by decide +kernel) rfl
theorem py_X10_brokenIfLent : za_Y yX10_brokenIfLent cX10_brokenIfLent 7 (some .int) 5 := ⟨w_1344, w_85, by decide +kernel⟩
theorem w_1341 : Cond.methodLink RX10 288 yX10_brokenIfLent ∈ lw_gd := za_gd 1341 (by decide +kernel) rfl
theorem w_1343 : Cond.instanceMethod yX10_brokenIfLent ∈ lw_gd := za_gd 1343 (by decide +kernel) rfl
theorem w_s65 : Cond.selects RX10 yX10_brokenIfLent yX10_brokenIfLent ∈ lw_gd := za_gd 65 (by decide +kernel) rfl
theorem pv_X10_288 : za_YV RX10 288 yX10_brokenIfLent := ⟨w_1341, w_1343, w_s65⟩
theorem w_904 : Cond.fieldLink RX10 291 "AshLoansModel" "traced" "I" ∈ lw_gd := za_gd 904 (by decide +kernel) rfl
theorem pf_X10_291 : za_FL RX10 291 10 15 23 RX10 TX10 "AshLoansModel" := ⟨rfl, gin_X10, by decide, w_904, rfl⟩
theorem w_903 : Cond.fieldLink RX10 41 "AshLoansModel" "trace" "[I" ∈ lw_gd := za_gd 903 (by decide +kernel) rfl
theorem pf_X10_41 : za_FL RX10 41 10 14 23 RX10 TX10 "AshLoansModel" := ⟨rfl, gin_X10, by decide, w_903, rfl⟩
theorem pt_X10_15 : za_FT 15 23 TX10 .int := ⟨rfl, by decide +kernel, ⟨tyX10, tyX10_ok⟩, nmX10⟩
theorem w_905 : Cond.fieldLink RX10 294 "AshLoansModel" "kind" "I" ∈ lw_gd := za_gd 905 (by decide +kernel) rfl
theorem pf_X10_294 : za_FL RX10 294 10 16 23 RX10 TX10 "AshLoansModel" := ⟨rfl, gin_X10, by decide, w_905, rfl⟩
theorem w_906 : Cond.fieldLink RX10 300 "AshLoansModel" "number" "I" ∈ lw_gd := za_gd 906 (by decide +kernel) rfl
theorem pf_X10_300 : za_FL RX10 300 10 17 23 RX10 TX10 "AshLoansModel" := ⟨rfl, gin_X10, by decide, w_906, rfl⟩
theorem w_1368 : Cond.code yX10_ran cX10_ran 2 none ∈ lw_gd := za_gd 1368 (by decide +kernel) rfl
theorem py_X10_ran : za_Y yX10_ran cX10_ran 2 none 1 := ⟨w_1368, w_85, by decide +kernel⟩
theorem w_1365 : Cond.methodLink RX10 297 yX10_ran ∈ lw_gd := za_gd 1365 (by decide +kernel) rfl
theorem w_1367 : Cond.instanceMethod yX10_ran ∈ lw_gd := za_gd 1367 (by decide +kernel) rfl
theorem w_s68 : Cond.selects RX10 yX10_ran yX10_ran ∈ lw_gd := za_gd 68 (by decide +kernel) rfl
theorem pv_X10_297 : za_YV RX10 297 yX10_ran := ⟨w_1365, w_1367, w_s68⟩
theorem zk_b70 : (Int8.ofInt 70).toInt32 = 70 := by decide
theorem zk_b12 : (Int8.ofInt 12).toInt32 = 12 := by decide
theorem w_907 : Cond.fieldLink RX10 309 "AshLoansModel" "told" "I" ∈ lw_gd := za_gd 907 (by decide +kernel) rfl
theorem pf_X10_309 : za_FL RX10 309 10 18 23 RX10 TX10 "AshLoansModel" := ⟨rfl, gin_X10, by decide, w_907, rfl⟩
theorem zk_b30 : (Int8.ofInt 30).toInt32 = 30 := by decide
theorem zk_b11 : (Int8.ofInt 11).toInt32 = 11 := by decide
theorem w_1364 : Cond.code yX10_burnsOf cX10_burnsOf 3 (some .int) ∈ lw_gd := za_gd 1364 (by decide +kernel) rfl
theorem py_X10_burnsOf : za_Y yX10_burnsOf cX10_burnsOf 3 (some .int) 1 := ⟨w_1364, w_85, by decide +kernel⟩
theorem w_1361 : Cond.methodLink RX10 303 yX10_burnsOf ∈ lw_gd := za_gd 1361 (by decide +kernel) rfl
theorem w_1363 : Cond.instanceMethod yX10_burnsOf ∈ lw_gd := za_gd 1363 (by decide +kernel) rfl
theorem w_s67 : Cond.selects RX10 yX10_burnsOf yX10_burnsOf ∈ lw_gd := za_gd 67 (by decide +kernel) rfl
theorem pv_X10_303 : za_YV RX10 303 yX10_burnsOf := ⟨w_1361, w_1363, w_s67⟩
theorem w_1376 : Cond.code yX10_runsOf cX10_runsOf 4 (some .int) ∈ lw_gd := za_gd 1376 (by decide +kernel) rfl
theorem py_X10_runsOf : za_Y yX10_runsOf cX10_runsOf 4 (some .int) 1 := ⟨w_1376, w_85, by decide +kernel⟩
theorem w_1373 : Cond.methodLink RX10 306 yX10_runsOf ∈ lw_gd := za_gd 1373 (by decide +kernel) rfl
theorem w_1375 : Cond.instanceMethod yX10_runsOf ∈ lw_gd := za_gd 1375 (by decide +kernel) rfl
theorem w_s70 : Cond.selects RX10 yX10_runsOf yX10_runsOf ∈ lw_gd := za_gd 70 (by decide +kernel) rfl
theorem pv_X10_306 : za_YV RX10 306 yX10_runsOf := ⟨w_1373, w_1375, w_s70⟩
theorem zk_b13 : (Int8.ofInt 13).toInt32 = 13 := by decide
theorem w_1372 : Cond.code yX10_meltsOf cX10_meltsOf 5 (some .int) ∈ lw_gd := za_gd 1372 (by decide +kernel) rfl
theorem py_X10_meltsOf : za_Y yX10_meltsOf cX10_meltsOf 5 (some .int) 1 := ⟨w_1372, w_85, by decide +kernel⟩
theorem w_1369 : Cond.methodLink RX10 312 yX10_meltsOf ∈ lw_gd := za_gd 1369 (by decide +kernel) rfl
theorem w_1371 : Cond.instanceMethod yX10_meltsOf ∈ lw_gd := za_gd 1371 (by decide +kernel) rfl
theorem w_s69 : Cond.selects RX10 yX10_meltsOf yX10_meltsOf ∈ lw_gd := za_gd 69 (by decide +kernel) rfl
theorem pv_X10_312 : za_YV RX10 312 yX10_meltsOf := ⟨w_1369, w_1371, w_s69⟩
theorem zk_b71 : (Int8.ofInt 71).toInt32 = 71 := by decide
theorem w_1384 : Cond.code yX10_plainGlows cX10_plainGlows 3 (some .int) ∈ lw_gd := za_gd 1384 (by decide +kernel) rfl
theorem py_X10_plainGlows : za_Y yX10_plainGlows cX10_plainGlows 3 (some .int) 1 := ⟨w_1384, w_85, by decide +kernel⟩
theorem w_1381 : Cond.methodLink RX10 315 yX10_plainGlows ∈ lw_gd := za_gd 1381 (by decide +kernel) rfl
theorem w_1383 : Cond.instanceMethod yX10_plainGlows ∈ lw_gd := za_gd 1383 (by decide +kernel) rfl
theorem w_s72 : Cond.selects RX10 yX10_plainGlows yX10_plainGlows ∈ lw_gd := za_gd 72 (by decide +kernel) rfl
theorem pv_X10_315 : za_YV RX10 315 yX10_plainGlows := ⟨w_1381, w_1383, w_s72⟩
theorem pt_X10_16 : za_FT 16 23 TX10 .int := ⟨rfl, by decide +kernel, ⟨tyX10, tyX10_ok⟩, nmX10⟩
theorem pt_X10_17 : za_FT 17 23 TX10 .int := ⟨rfl, by decide +kernel, ⟨tyX10, tyX10_ok⟩, nmX10⟩
theorem pt_X10_18 : za_FT 18 23 TX10 .int := ⟨rfl, by decide +kernel, ⟨tyX10, tyX10_ok⟩, nmX10⟩
theorem w_1380 : Cond.code yX10_glowsOf cX10_glowsOf 3 (some .int) ∈ lw_gd := za_gd 1380 (by decide +kernel) rfl
theorem py_X10_glowsOf : za_Y yX10_glowsOf cX10_glowsOf 3 (some .int) 1 := ⟨w_1380, w_85, by decide +kernel⟩
theorem w_1377 : Cond.methodLink RX10 318 yX10_glowsOf ∈ lw_gd := za_gd 1377 (by decide +kernel) rfl
theorem w_1379 : Cond.instanceMethod yX10_glowsOf ∈ lw_gd := za_gd 1379 (by decide +kernel) rfl
theorem w_s71 : Cond.selects RX10 yX10_glowsOf yX10_glowsOf ∈ lw_gd := za_gd 71 (by decide +kernel) rfl
theorem pv_X10_318 : za_YV RX10 318 yX10_glowsOf := ⟨w_1377, w_1379, w_s71⟩
theorem w_911 : Cond.fieldLink RX10 53 "AshLoansModel" "carried" "[I" ∈ lw_gd := za_gd 911 (by decide +kernel) rfl
theorem pf_X10_53 : za_FL RX10 53 10 22 23 RX10 TX10 "AshLoansModel" := ⟨rfl, gin_X10, by decide, w_911, rfl⟩
theorem w_890 : Cond.fieldLink RX10 13 "AshLoansModel" "kept" "[I" ∈ lw_gd := za_gd 890 (by decide +kernel) rfl
theorem pf_X10_13 : za_FL RX10 13 10 1 23 RX10 TX10 "AshLoansModel" := ⟨rfl, gin_X10, by decide, w_890, rfl⟩
theorem w_892 : Cond.fieldLink RX10 321 "AshLoansModel" "images" "I" ∈ lw_gd := za_gd 892 (by decide +kernel) rfl
theorem pf_X10_321 : za_FL RX10 321 10 3 23 RX10 TX10 "AshLoansModel" := ⟨rfl, gin_X10, by decide, w_892, rfl⟩
theorem pt_X10_3 : za_FT 3 23 TX10 .int := ⟨rfl, by decide +kernel, ⟨tyX10, tyX10_ok⟩, nmX10⟩
theorem zk_s155 : (Int16.ofInt 155).toInt32 = 155 := by decide
theorem w_1432 : Cond.code yX10_potsAll cX10_potsAll 3 (some .int) ∈ lw_gd := za_gd 1432 (by decide +kernel) rfl
theorem py_X10_potsAll : za_Y yX10_potsAll cX10_potsAll 3 (some .int) 0 := ⟨w_1432, w_85, by decide +kernel⟩
theorem w_1429 : Cond.methodLink RX10 324 yX10_potsAll ∈ lw_gd := za_gd 1429 (by decide +kernel) rfl
theorem w_1431 : Cond.instanceMethod yX10_potsAll ∈ lw_gd := za_gd 1431 (by decide +kernel) rfl
theorem w_s73 : Cond.selects RX10 yX10_potsAll yX10_potsAll ∈ lw_gd := za_gd 73 (by decide +kernel) rfl
theorem pv_X10_324 : za_YV RX10 324 yX10_potsAll := ⟨w_1429, w_1431, w_s73⟩
end
section
/-! the reference's nameOf: which name of the use a byte is (the names lie in texts) -/
def za_nmo (u : Nat) (x : Int32) : Int32 := if za_t1 (3 * u + 2) = x then 2 else if za_t1 (3 * u + 1) = x then 1 else if za_t1 (3 * u) = x then 0 else (-1)
def f_X10_nameOf (x1 : Int32) (M : za_M) (K : Int32 → za_M → Prop) : Prop := vp_in (M.1 (27, 0, 0) 8) 2 ∧ K (za_nmo (M.1 (27, 0, 0) 8).toNatClampNeg x1) M
theorem dJ0_length_8abf5_0 : decode cJ0_length_8abf5 0 = .ok (.aload_n 0, 1) := by decide +kernel
theorem dJ0_length_8abf5_1 : decode cJ0_length_8abf5 1 = .ok (.getfield 9, 3) := by decide +kernel
theorem dJ0_length_8abf5_4 : decode cJ0_length_8abf5 4 = .ok (.arraylength, 1) := by decide +kernel
theorem dJ0_length_8abf5_5 : decode cJ0_length_8abf5 5 = .ok (.aload_n 0, 1) := by decide +kernel
theorem dJ0_length_8abf5_6 : decode cJ0_length_8abf5 6 = .ok (.invokevirtual 335, 3) := by decide +kernel
theorem dJ0_length_8abf5_9 : decode cJ0_length_8abf5 9 = .ok (.ishr, 1) := by decide +kernel
theorem dJ0_length_8abf5_10 : decode cJ0_length_8abf5 10 = .ok (.ireturn, 1) := by decide +kernel
theorem dJ0_charAt_5068e_0 : decode cJ0_charAt_5068e 0 = .ok (.aload_n 0, 1) := by decide +kernel
theorem dJ0_charAt_5068e_1 : decode cJ0_charAt_5068e 1 = .ok (.invokevirtual 492, 3) := by decide +kernel
theorem dJ0_charAt_5068e_4 : decode cJ0_charAt_5068e 4 = .ok (.ifCond .eq 12, 3) := by decide +kernel
theorem dJ0_charAt_5068e_7 : decode cJ0_charAt_5068e 7 = .ok (.aload_n 0, 1) := by decide +kernel
theorem dJ0_charAt_5068e_8 : decode cJ0_charAt_5068e 8 = .ok (.getfield 9, 3) := by decide +kernel
theorem dJ0_charAt_5068e_11 : decode cJ0_charAt_5068e 11 = .ok (.iload_n 1, 1) := by decide +kernel
theorem dJ0_charAt_5068e_12 : decode cJ0_charAt_5068e 12 = .ok (.invokestatic 495, 3) := by decide +kernel
theorem dJ0_charAt_5068e_15 : decode cJ0_charAt_5068e 15 = .ok (.ireturn, 1) := by decide +kernel
theorem dJ0_charAt_5068e_16 : decode cJ0_charAt_5068e 16 = .ok (.aload_n 0, 1) := by decide +kernel
theorem dJ0_charAt_5068e_17 : decode cJ0_charAt_5068e 17 = .ok (.getfield 9, 3) := by decide +kernel
theorem dJ0_charAt_5068e_20 : decode cJ0_charAt_5068e 20 = .ok (.iload_n 1, 1) := by decide +kernel
theorem dJ0_charAt_5068e_21 : decode cJ0_charAt_5068e 21 = .ok (.invokestatic 498, 3) := by decide +kernel
theorem dJ0_charAt_5068e_24 : decode cJ0_charAt_5068e 24 = .ok (.ireturn, 1) := by decide +kernel
theorem dJ0_coder_7d493_0 : decode cJ0_coder_7d493 0 = .ok (.getstatic 38, 3) := by decide +kernel
theorem dJ0_coder_7d493_3 : decode cJ0_coder_7d493 3 = .ok (.ifCond .eq 10, 3) := by decide +kernel
theorem dJ0_coder_7d493_6 : decode cJ0_coder_7d493 6 = .ok (.aload_n 0, 1) := by decide +kernel
theorem dJ0_coder_7d493_7 : decode cJ0_coder_7d493 7 = .ok (.getfield 15, 3) := by decide +kernel
theorem dJ0_coder_7d493_10 : decode cJ0_coder_7d493 10 = .ok (.goto 4, 3) := by decide +kernel
theorem dJ0_coder_7d493_13 : decode cJ0_coder_7d493 13 = .ok (.iconst 1, 1) := by decide +kernel
theorem dJ0_coder_7d493_14 : decode cJ0_coder_7d493 14 = .ok (.ireturn, 1) := by decide +kernel
theorem dJ0_isLatin1_aae02_0 : decode cJ0_isLatin1_aae02 0 = .ok (.getstatic 38, 3) := by decide +kernel
theorem dJ0_isLatin1_aae02_3 : decode cJ0_isLatin1_aae02 3 = .ok (.ifCond .eq 14, 3) := by decide +kernel
theorem dJ0_isLatin1_aae02_6 : decode cJ0_isLatin1_aae02 6 = .ok (.aload_n 0, 1) := by decide +kernel
theorem dJ0_isLatin1_aae02_7 : decode cJ0_isLatin1_aae02 7 = .ok (.getfield 15, 3) := by decide +kernel
theorem dJ0_isLatin1_aae02_10 : decode cJ0_isLatin1_aae02 10 = .ok (.ifCond .ne 7, 3) := by decide +kernel
theorem dJ0_isLatin1_aae02_13 : decode cJ0_isLatin1_aae02 13 = .ok (.iconst 1, 1) := by decide +kernel
theorem dJ0_isLatin1_aae02_14 : decode cJ0_isLatin1_aae02 14 = .ok (.goto 4, 3) := by decide +kernel
theorem dJ0_isLatin1_aae02_17 : decode cJ0_isLatin1_aae02 17 = .ok (.iconst 0, 1) := by decide +kernel
theorem dJ0_isLatin1_aae02_18 : decode cJ0_isLatin1_aae02 18 = .ok (.ireturn, 1) := by decide +kernel
theorem dJ0_checkIndex_df160_0 : decode cJ0_checkIndex_df160 0 = .ok (.iload_n 0, 1) := by decide +kernel
theorem dJ0_checkIndex_df160_1 : decode cJ0_checkIndex_df160 1 = .ok (.iload_n 1, 1) := by decide +kernel
theorem dJ0_checkIndex_df160_2 : decode cJ0_checkIndex_df160 2 = .ok (.getstatic 1053, 3) := by decide +kernel
theorem dJ0_checkIndex_df160_5 : decode cJ0_checkIndex_df160 5 = .ok (.invokestatic 1059, 3) := by decide +kernel
theorem dJ0_checkIndex_df160_8 : decode cJ0_checkIndex_df160 8 = .ok (.pop, 1) := by decide +kernel
theorem dJ0_checkIndex_df160_9 : decode cJ0_checkIndex_df160 9 = .ok (.return_, 1) := by decide +kernel
theorem dJ1_charAt_3b067_0 : decode cJ1_charAt_3b067 0 = .ok (.iload_n 1, 1) := by decide +kernel
theorem dJ1_charAt_3b067_1 : decode cJ1_charAt_3b067 1 = .ok (.aload_n 0, 1) := by decide +kernel
theorem dJ1_charAt_3b067_2 : decode cJ1_charAt_3b067 2 = .ok (.arraylength, 1) := by decide +kernel
theorem dJ1_charAt_3b067_3 : decode cJ1_charAt_3b067 3 = .ok (.invokestatic 9, 3) := by decide +kernel
theorem dJ1_charAt_3b067_6 : decode cJ1_charAt_3b067 6 = .ok (.aload_n 0, 1) := by decide +kernel
theorem dJ1_charAt_3b067_7 : decode cJ1_charAt_3b067 7 = .ok (.iload_n 1, 1) := by decide +kernel
theorem dJ1_charAt_3b067_8 : decode cJ1_charAt_3b067 8 = .ok (.baload, 1) := by decide +kernel
theorem dJ1_charAt_3b067_9 : decode cJ1_charAt_3b067 9 = .ok (.sipush 255, 3) := by decide +kernel
theorem dJ1_charAt_3b067_12 : decode cJ1_charAt_3b067 12 = .ok (.iand, 1) := by decide +kernel
theorem dJ1_charAt_3b067_13 : decode cJ1_charAt_3b067 13 = .ok (.i2c, 1) := by decide +kernel
theorem dJ1_charAt_3b067_14 : decode cJ1_charAt_3b067 14 = .ok (.ireturn, 1) := by decide +kernel
theorem dJ3_checkIndex_8e157_0 : decode cJ3_checkIndex_8e157 0 = .ok (.iload_n 0, 1) := by decide +kernel
theorem dJ3_checkIndex_8e157_1 : decode cJ3_checkIndex_8e157 1 = .ok (.ifCond .lt 8, 3) := by decide +kernel
theorem dJ3_checkIndex_8e157_4 : decode cJ3_checkIndex_8e157 4 = .ok (.iload_n 0, 1) := by decide +kernel
theorem dJ3_checkIndex_8e157_5 : decode cJ3_checkIndex_8e157 5 = .ok (.iload_n 1, 1) := by decide +kernel
theorem dJ3_checkIndex_8e157_6 : decode cJ3_checkIndex_8e157 6 = .ok (.if_icmp .lt 10, 3) := by decide +kernel
theorem dJ3_checkIndex_8e157_9 : decode cJ3_checkIndex_8e157 9 = .ok (.aload_n 2, 1) := by decide +kernel
theorem dJ3_checkIndex_8e157_10 : decode cJ3_checkIndex_8e157 10 = .ok (.iload_n 0, 1) := by decide +kernel
theorem dJ3_checkIndex_8e157_11 : decode cJ3_checkIndex_8e157 11 = .ok (.iload_n 1, 1) := by decide +kernel
theorem dJ3_checkIndex_8e157_12 : decode cJ3_checkIndex_8e157 12 = .ok (.invokestatic 95, 3) := by decide +kernel
theorem dJ3_checkIndex_8e157_15 : decode cJ3_checkIndex_8e157 15 = .ok (.athrow, 1) := by decide +kernel
theorem dJ3_checkIndex_8e157_16 : decode cJ3_checkIndex_8e157 16 = .ok (.iload_n 0, 1) := by decide +kernel
theorem dJ3_checkIndex_8e157_17 : decode cJ3_checkIndex_8e157 17 = .ok (.ireturn, 1) := by decide +kernel
theorem w_87 : Cond.initialized RJ0 ∈ lw_gd := za_gd 87 (by decide +kernel) rfl
theorem w_88 : Cond.initialized RJ1 ∈ lw_gd := za_gd 88 (by decide +kernel) rfl
theorem w_89 : Cond.initialized RJ3 ∈ lw_gd := za_gd 89 (by decide +kernel) rfl
theorem w_1022 : Cond.code yJ0_length_8abf5 cJ0_length_8abf5 1 (some .int) ∈ lw_gd := za_gd 1022 (by decide +kernel) rfl
theorem w_1026 : Cond.code yJ0_coder_7d493 cJ0_coder_7d493 1 (some .byte) ∈ lw_gd := za_gd 1026 (by decide +kernel) rfl
theorem w_1032 : Cond.code yJ0_charAt_5068e cJ0_charAt_5068e 2 (some .char) ∈ lw_gd := za_gd 1032 (by decide +kernel) rfl
theorem w_1036 : Cond.code yJ0_isLatin1_aae02 cJ0_isLatin1_aae02 1 (some .boolean) ∈ lw_gd := za_gd 1036 (by decide +kernel) rfl
theorem w_1039 : Cond.code yJ1_charAt_3b067 cJ1_charAt_3b067 2 (some .char) ∈ lw_gd := za_gd 1039 (by decide +kernel) rfl
theorem w_1042 : Cond.code yJ0_checkIndex_df160 cJ0_checkIndex_df160 2 none ∈ lw_gd := za_gd 1042 (by decide +kernel) rfl
theorem w_1047 : Cond.code yJ3_checkIndex_8e157 cJ3_checkIndex_8e157 3 (some .int) ∈ lw_gd := za_gd 1047 (by decide +kernel) rfl
theorem w_1019 : Cond.methodLink RX10 123 yJ0_length_8abf5 ∈ lw_gd := za_gd 1019 (by decide +kernel) rfl
theorem w_1020 : Cond.instanceMethod yJ0_length_8abf5 ∈ lw_gd := za_gd 1020 (by decide +kernel) rfl
theorem w_1021 : Cond.selects RJ0 yJ0_length_8abf5 yJ0_length_8abf5 ∈ lw_gd := za_gd 1021 (by decide +kernel) rfl
theorem w_1023 : Cond.methodLink RJ0 335 yJ0_coder_7d493 ∈ lw_gd := za_gd 1023 (by decide +kernel) rfl
theorem w_1024 : Cond.instanceMethod yJ0_coder_7d493 ∈ lw_gd := za_gd 1024 (by decide +kernel) rfl
theorem w_1025 : Cond.selects RJ0 yJ0_coder_7d493 yJ0_coder_7d493 ∈ lw_gd := za_gd 1025 (by decide +kernel) rfl
theorem w_1029 : Cond.methodLink RX10 126 yJ0_charAt_5068e ∈ lw_gd := za_gd 1029 (by decide +kernel) rfl
theorem w_1030 : Cond.instanceMethod yJ0_charAt_5068e ∈ lw_gd := za_gd 1030 (by decide +kernel) rfl
theorem w_1031 : Cond.selects RJ0 yJ0_charAt_5068e yJ0_charAt_5068e ∈ lw_gd := za_gd 1031 (by decide +kernel) rfl
theorem w_1033 : Cond.methodLink RJ0 492 yJ0_isLatin1_aae02 ∈ lw_gd := za_gd 1033 (by decide +kernel) rfl
theorem w_1034 : Cond.instanceMethod yJ0_isLatin1_aae02 ∈ lw_gd := za_gd 1034 (by decide +kernel) rfl
theorem w_1035 : Cond.selects RJ0 yJ0_isLatin1_aae02 yJ0_isLatin1_aae02 ∈ lw_gd := za_gd 1035 (by decide +kernel) rfl
theorem w_1037 : Cond.methodLink RJ0 495 yJ1_charAt_3b067 ∈ lw_gd := za_gd 1037 (by decide +kernel) rfl
theorem w_1038 : Cond.static yJ1_charAt_3b067 ∈ lw_gd := za_gd 1038 (by decide +kernel) rfl
theorem w_1040 : Cond.methodLink RJ1 9 yJ0_checkIndex_df160 ∈ lw_gd := za_gd 1040 (by decide +kernel) rfl
theorem w_1041 : Cond.static yJ0_checkIndex_df160 ∈ lw_gd := za_gd 1041 (by decide +kernel) rfl
theorem w_1045 : Cond.methodLink RJ0 1059 yJ3_checkIndex_8e157 ∈ lw_gd := za_gd 1045 (by decide +kernel) rfl
theorem w_1046 : Cond.static yJ3_checkIndex_8e157 ∈ lw_gd := za_gd 1046 (by decide +kernel) rfl
theorem w_1027 : Cond.fieldLink RJ0 38 "java/lang/String" "COMPACT_STRINGS" "Z" ∈ lw_gd := za_gd 1027 (by decide +kernel) rfl
theorem w_1043 : Cond.fieldLink RJ0 1053 "jdk/internal/util/Preconditions" "SIOOBE_FORMATTER" "Ljava/util/function/BiFunction;" ∈ lw_gd := za_gd 1043 (by decide +kernel) rfl
theorem w_1438 : Cond.fieldLink RJ0 9 "java/lang/String" "value" "[B" ∈ lw_gd := za_gd 1438 (by decide +kernel) rfl
theorem w_1439 : Cond.fieldLink RJ0 15 "java/lang/String" "coder" "B" ∈ lw_gd := za_gd 1439 (by decide +kernel) rfl
theorem py_J0_length_8abf5 : za_Y yJ0_length_8abf5 cJ0_length_8abf5 1 (some .int) 0 := ⟨w_1022, w_87, by decide +kernel⟩
theorem py_J0_coder_7d493 : za_Y yJ0_coder_7d493 cJ0_coder_7d493 1 (some .byte) 0 := ⟨w_1026, w_87, by decide +kernel⟩
theorem py_J0_charAt_5068e : za_Y yJ0_charAt_5068e cJ0_charAt_5068e 2 (some .char) 1 := ⟨w_1032, w_87, by decide +kernel⟩
theorem py_J0_isLatin1_aae02 : za_Y yJ0_isLatin1_aae02 cJ0_isLatin1_aae02 1 (some .boolean) 0 := ⟨w_1036, w_87, by decide +kernel⟩
theorem py_J1_charAt_3b067 : za_Y yJ1_charAt_3b067 cJ1_charAt_3b067 2 (some .char) 2 := ⟨w_1039, w_88, by decide +kernel⟩
theorem py_J0_checkIndex_df160 : za_Y yJ0_checkIndex_df160 cJ0_checkIndex_df160 2 none 2 := ⟨w_1042, w_87, by decide +kernel⟩
theorem py_J3_checkIndex_8e157 : za_Y yJ3_checkIndex_8e157 cJ3_checkIndex_8e157 3 (some .int) 3 := ⟨w_1047, w_89, by decide +kernel⟩
theorem pv_RX10_123 : za_YV RX10 123 yJ0_length_8abf5 := ⟨w_1019, w_1020, w_1021⟩
theorem pv_RJ0_335 : za_YV RJ0 335 yJ0_coder_7d493 := ⟨w_1023, w_1024, w_1025⟩
theorem pv_RX10_126 : za_YV RX10 126 yJ0_charAt_5068e := ⟨w_1029, w_1030, w_1031⟩
theorem pv_RJ0_492 : za_YV RJ0 492 yJ0_isLatin1_aae02 := ⟨w_1033, w_1034, w_1035⟩
theorem ps_RJ0_495 : za_YS RJ0 495 yJ1_charAt_3b067 := ⟨w_1037, w_1038⟩
theorem ps_RJ1_9 : za_YS RJ1 9 yJ0_checkIndex_df160 := ⟨w_1040, w_1041⟩
theorem ps_RJ0_1059 : za_YS RJ0 1059 yJ3_checkIndex_8e157 := ⟨w_1045, w_1046⟩
section ZJ
variable {p : Program} {l : Launch} {e : Env} {R : Room} {s : State} {m : MethodId} {args : Array Value} {below : List Frame} {meth : Method} {c : Code} {nc ns : Nat} {Q : State → Prop} {g : za_L → Nat} {D : va_G} {cy : Nat → ClassId} {nL : Nat} {cc : ByteArray} {own : String} {M : za_M} {pc : Nat} {lv : List (Nat × Value)} {rest : List Value}
theorem zt_i2c (C : za_C p s m args c cc nL own g D cy) {x v : Int32} (hdg : decode cc pc = .ok (.i2c, 1)) (hv : (x.toUInt32 % 65536).toInt32 = v) (k : zt p l e R s m args below meth c nc ns Q g D cy nL M (pc + 1) lv (.int v :: rest)) : zt p l e R s m args below meth c nc ns Q g D cy nL M pc lv (.int x :: rest) := fun H locs ls hP hS hl => lv_i2c C.1 C.2.1 hdg hv (k H locs ls hP hS hl)
theorem zt_getsV (C : za_C p s m args c cc nL own g D cy) {Cn n d : String} {v : Value} {index : Nat} (hZ : va_Z Cn n d v (za_A g) s s.heap) (hw : Cond.fieldLink own index Cn n d ∈ lw_gd) (hdg : decode cc pc = .ok (.getstatic index, 3)) (kk : zt p l e R s m args below meth c nc ns Q g D cy nL M (pc + 3) lv (v :: rest)) : zt p l e R s m args below meth c nc ns Q g D cy nL M pc lv rest := fun H locs ls hP hS hl => va_gets C.1 C.2.1 hZ hS C.2.2.2.1 (C.2.2.2.2.1 _ hw) (fun _ h => h) hdg (kk H locs ls hP hS hl)
theorem zt_getO (C : za_C p s m args c cc nL own g D cy) {o n d : String} {v : Value} {q index : Nat} (hE : va_OF o n d v q (za_A g) s s.heap) (hw : Cond.fieldLink own index o n d ∈ lw_gd) (hdg : decode cc pc = .ok (.getfield index, 3)) (kk : zt p l e R s m args below meth c nc ns Q g D cy nL M (pc + 3) lv (v :: rest)) : zt p l e R s m args below meth c nc ns Q g D cy nL M pc lv (.ref q :: rest) := fun H locs ls hP hS hl => vk_getf C.1 C.2.1 hE hS C.2.2.2.1 (C.2.2.2.2.1 _ hw) (fun _ h => h) hdg (kk H locs ls hP hS hl)
theorem zt_tlen (C : za_C p s m args c cc nL own g D cy) {ty : FieldType} {t N : Nat} {f : Nat → Value} {v : Int32} (hT : va_T ty t N f (za_A g) s s.heap) (hv : Int32.ofNat N = v) (hdg : decode cc pc = .ok (.arraylength, 1)) (kk : zt p l e R s m args below meth c nc ns Q g D cy nL M (pc + 1) lv (.int v :: rest)) : zt p l e R s m args below meth c nc ns Q g D cy nL M pc lv (.ref t :: rest) := fun H locs ls hP hS hl => va_tlen C.1 C.2.1 hT hS hv hdg (kk H locs ls hP hS hl)
theorem zt_tbld (C : za_C p s m args c cc nL own g D cy) {t N : Nat} {f : Nat → Int32} {i : Int32} (hT : va_T .byte t N (fun j => .int (f j)) (za_A g) s s.heap) (hin : vp_in i N) (hdg : decode cc pc = .ok (.baload, 1)) (kk : zt p l e R s m args below meth c nc ns Q g D cy nL M (pc + 1) lv (.int (f i.toNatClampNeg) :: rest)) : zt p l e R s m args below meth c nc ns Q g D cy nL M pc lv (.int i :: .ref t :: rest) := fun H locs ls hP hS hl => va_tb C.1 C.2.1 hT hS hin rfl hdg (kk H locs ls hP hS hl)
theorem za_FS (C : za_C p s m args c cc nL own g D cy) : vk_S 2 [3, 3] [[109, 107, 104], [110, 109, 100]] (fun i => g (41, 0, i)) (fun i => g (43, 0, i)) (za_A g) s s.heap := C.2.2.2.2.2.1.2.2.2.2.2.2.1
theorem za_FC (C : za_C p s m args c cc nL own g D cy) : va_Z "java/lang/String" "COMPACT_STRINGS" "Z" (.int 1) (za_A g) s s.heap := C.2.2.2.2.2.1.2.2.2.2.2.2.2.1
theorem za_FQ (C : za_C p s m args c cc nL own g D cy) : va_Zq "jdk/internal/util/Preconditions" "SIOOBE_FORMATTER" "Ljava/util/function/BiFunction;" (za_A g) s s.heap := C.2.2.2.2.2.1.2.2.2.2.2.2.2.2
theorem zt_cKi (C : za_C p s m args c cc nL own g D cy) {y : MethodName} {b : ByteArray} {n fr lo index : Nat} {ret : Option FieldType} {K : Int32 → za_M → Prop} {u : Nat} (hu : u < 2) (hyc : y.cls = "java/lang/String") (As : List Value) (hM : za_Mi l g D cy y b n ret fr lo (.ref (g (41, 0, u)) :: As) M K) (hY : za_Y y b n ret As.length) (hV : za_YV own index y) (hcat : (rest.map fun v => v.category).sum ≤ 8) (hR : fr + 1 ≤ R.frames ∧ 8 + (n + 11) + lo ≤ R.locals) (hf : nc + 0 ≤ R.cells ∧ ns + 0 ≤ R.slots) (hdg : decode cc pc = .ok (.invokevirtual index, 3)) {st : List Value} (hst : st = As.reverse ++ .ref (g (41, 0, u)) :: rest) (kk : ∀ (r : Int32) (M' : za_M), K r M' → zt p l e R s m args below meth c nc ns Q g D cy nL M' (pc + 3) lv (.int r :: rest)) : zt p l e R s m args below meth c nc ns Q g D cy nL M pc lv st := by
  intro H locs ls hP hS hl
  obtain ⟨y1, y2, y3⟩ := hY
  obtain ⟨v1, v2, v3⟩ := hV
  subst hst
  have hG : GoodIn lw_gd (wsV own index y.cls y (.code y b n ret :: lw_gd)) := za_gapp (fun w hw => by
    rcases List.mem_cons.mp hw with h | hw
    · rw [h]; exact v1
    rcases List.mem_cons.mp hw with h | hw
    · rw [h]; exact v2
    rcases List.mem_cons.mp hw with h | hw
    · rw [h]; exact v3
    rw [List.mem_singleton.mp hw]; exact y2) (za_gin y1)
  refine va_calli (va_runV (As := As) (rest := rest) ⟨C.1, C.2.1, C.2.2.1, C.2.2.2.1, C.2.2.2.2.1⟩ hM (cwV As.length C.2.2.2.2.1 hG rfl rfl rfl ⟨rfl, y3⟩ hR) ⟨za_Pr_blind g D cy _ M, (by rw [hyc]; exact vk_recv (za_FS C) hu hS), fun U hU hW => ⟨rfl, by rw [hU]; exact hP, za_F.go C.2.2.2.2.2.1 hU hW hS⟩⟩ rfl rfl hl.1 rfl (lv_room hcat) hdg hf) hS (fun q _ h => h) (fun q h => h) (fun r u t H1 locs1 ht hvm hw hB hz1 hk1 hS1 => kk r u hw H1 locs1 ls (by rw [← ht]; exact hB) hS1 hl)
end ZJ
section ZK
variable {l : Launch} {g : za_L → Nat} {D : va_G} {cy : Nat → ClassId} {M : za_M} {K : Int32 → za_M → Prop}
theorem m_J3_checkIndex (hJ : za_J g) {v : Value} (hv : v = .null ∨ ∃ t : Nat, v = .ref t) {i n : Nat} (hi : i < n) (hn : n < 2 ^ 31) (h : K (nI i) M) : za_Mi l g D cy yJ3_checkIndex_8e157 cJ3_checkIndex_8e157 3 (some .int) 1 64 [.int (nI i), .int (nI n), v] M K := by
  rcases hv with rfl | ⟨t, rfl⟩
  all_goals
    refine za_openi hJ (by decide) (Nat.le_of_ble_eq_true rfl) (fun p e s m args below meth c C hr hk => ?_)
    refine zt_iload_n C 0 dJ3_checkIndex_8e157_0 rfl rfl ?_
    refine zt_if_lt C 9 dJ3_checkIndex_8e157_1 (by decide) (fun q => absurd q (nI_pos (by omega))) (fun _ => ?_)
    refine zt_iload_n C 0 dJ3_checkIndex_8e157_4 rfl rfl ?_
    refine zt_iload_n C 1 dJ3_checkIndex_8e157_5 rfl rfl ?_
    refine zt_icmp_lt C 16 dJ3_checkIndex_8e157_6 (by decide) (fun _ => ?_) (fun q => absurd (nI_lt hi hn) q)
    refine zt_iload_n C 0 dJ3_checkIndex_8e157_16 rfl rfl ?_
    exact zt_ret C hr hk rfl dJ3_checkIndex_8e157_17 h
theorem m_J0_checkIndex (hJ : za_J g) {K : za_M → Prop} {i n : Nat} (hi : i < n) (hn : n < 2 ^ 31) (h : K M) : za_Mv l g D cy yJ0_checkIndex_df160 cJ0_checkIndex_df160 2 none 2 86 [.int (nI i), .int (nI n)] M K := by
  refine za_openv hJ (by decide) (Nat.le_of_ble_eq_true rfl) (fun p e s m args below meth c C hr hk => ?_)
  refine zt_iload_n C 0 dJ0_checkIndex_df160_0 rfl rfl ?_
  refine zt_iload_n C 1 dJ0_checkIndex_df160_1 rfl rfl ?_
  have go : ∀ v : Value, (v = .null ∨ ∃ t : Nat, v = .ref t) → zt p l e (za_rm 2 86) s m args below meth c 0 0 (MQ below (za_Qv g D cy K) args s 0 0 (za_A g)) g D cy 2 M 5 [(0, .int (nI i)), (1, .int (nI n))] [v, .int (nI n), .int (nI i)] := by
    intro v hv
    refine zt_cSi (K := fun r M' => M' = M) C [.int (nI i), .int (nI n), v] (m_J3_checkIndex hJ hv hi hn rfl) py_J3_checkIndex_8e157 ps_RJ0_1059 (Nat.le_of_ble_eq_true rfl) ⟨Nat.le_of_ble_eq_true rfl, Nat.le_of_ble_eq_true rfl⟩ ⟨Nat.zero_le _, Nat.zero_le _⟩ dJ0_checkIndex_df160_5 rfl ?_
    rintro r M' rfl
    refine zt_pop C dJ0_checkIndex_df160_8 rfl ?_
    exact zt_vret C hr hk dJ0_checkIndex_df160_9 h
  rcases za_FQ C with hZ | ⟨t, hZ⟩
  · refine zt_getsV C hZ w_1043 dJ0_checkIndex_df160_2 ?_
    exact go _ (Or.inl rfl)
  · refine zt_getsV C hZ w_1043 dJ0_checkIndex_df160_2 ?_
    exact go _ (Or.inr ⟨t, rfl⟩)
theorem zj_by : ∀ u, u < 2 → ∀ i, i < 3 → ((([[109, 107, 104], [110, 109, 100]] : List (List Int32)).getD u []).getD i 0 &&& 255) = za_t1 (3 * u + i) := by decide
theorem zj_ch : ∀ k, k < 6 → ((za_t1 k).toUInt32 % 65536).toInt32 = za_t1 k := by decide
theorem zj_nr : ∀ k, k < 6 → narrow .char (.int (za_t1 k)) = .int (za_t1 k) := by
  intro k hk
  have hc : k = 0 ∨ k = 1 ∨ k = 2 ∨ k = 3 ∨ k = 4 ∨ k = 5 := by omega
  rcases hc with rfl | rfl | rfl | rfl | rfl | rfl <;> rfl
theorem m_J1_charAt (hJ : za_J g) {u i : Nat} (hu : u < 2) (hi : i < 3) (h : K (za_t1 (3 * u + i)) M) : za_Mi l g D cy yJ1_charAt_3b067 cJ1_charAt_3b067 2 (some .char) 3 107 [.ref (g (43, 0, u)), .int (nI i)] M K := by
  refine za_openi hJ (by decide) (Nat.le_of_ble_eq_true rfl) (fun p e s m args below meth c C hr hk => ?_)
  have hT := ((za_FS C).1 u hu).2.2.2
  have h3 : ([3, 3] : List Nat).getD u 0 = 3 := by
    have hc : u = 0 ∨ u = 1 := by omega
    rcases hc with rfl | rfl <;> rfl
  rw [h3] at hT
  refine zt_iload_n C 1 dJ1_charAt_3b067_0 rfl rfl ?_
  refine zt_aload_n C 0 dJ1_charAt_3b067_1 rfl rfl ?_
  refine zt_tlen C (v := nI 3) hT rfl dJ1_charAt_3b067_2 ?_
  refine zt_cSv (K := fun M' => M' = M) C [.int (nI i), .int (nI 3)] (m_J0_checkIndex hJ hi (by decide) rfl) py_J0_checkIndex_df160 ps_RJ1_9 (Nat.le_of_ble_eq_true rfl) ⟨Nat.le_of_ble_eq_true rfl, Nat.le_of_ble_eq_true rfl⟩ ⟨Nat.zero_le _, Nat.zero_le _⟩ dJ1_charAt_3b067_3 rfl ?_
  rintro M' rfl
  refine zt_aload_n C 0 dJ1_charAt_3b067_6 rfl rfl ?_
  refine zt_iload_n C 1 dJ1_charAt_3b067_7 rfl rfl ?_
  refine zt_tbld C hT (vp_in_nI hi (by decide)) dJ1_charAt_3b067_8 ?_
  rw [nI_clamp (by omega)]
  refine zt_sipush C (v := 255) dJ1_charAt_3b067_9 (by decide) ?_
  refine zt_iand C dJ1_charAt_3b067_12 ?_
  rw [zj_by u hu i hi]
  refine zt_i2c C dJ1_charAt_3b067_13 (zj_ch _ (by omega)) ?_
  exact zt_ret C hr hk (zj_nr _ (by omega)) dJ1_charAt_3b067_14 h
theorem m_J0_coder (hJ : za_J g) {u : Nat} (hu : u < 2) (h : K 0 M) : za_Mi l g D cy yJ0_coder_7d493 cJ0_coder_7d493 1 (some .byte) 1 64 [.ref (g (41, 0, u))] M K := by
  refine za_openi hJ (by decide) (Nat.le_of_ble_eq_true rfl) (fun p e s m args below meth c C hr hk => ?_)
  refine zt_getsV C (za_FC C) w_1027 dJ0_coder_7d493_0 ?_
  refine zt_if_eq C 13 dJ0_coder_7d493_3 (by decide) (fun q => absurd q (by decide)) (fun _ => ?_)
  refine zt_aload_n C 0 dJ0_coder_7d493_6 rfl rfl ?_
  refine zt_getO C ((za_FS C).1 u hu).2.1 w_1439 dJ0_coder_7d493_7 ?_
  refine zt_goto C 14 dJ0_coder_7d493_10 (by decide) ?_
  exact zt_ret C hr hk rfl dJ0_coder_7d493_14 h
theorem m_J0_isLatin1 (hJ : za_J g) {u : Nat} (hu : u < 2) (h : K 1 M) : za_Mi l g D cy yJ0_isLatin1_aae02 cJ0_isLatin1_aae02 1 (some .boolean) 1 64 [.ref (g (41, 0, u))] M K := by
  refine za_openi hJ (by decide) (Nat.le_of_ble_eq_true rfl) (fun p e s m args below meth c C hr hk => ?_)
  refine zt_getsV C (za_FC C) w_1027 dJ0_isLatin1_aae02_0 ?_
  refine zt_if_eq C 17 dJ0_isLatin1_aae02_3 (by decide) (fun q => absurd q (by decide)) (fun _ => ?_)
  refine zt_aload_n C 0 dJ0_isLatin1_aae02_6 rfl rfl ?_
  refine zt_getO C ((za_FS C).1 u hu).2.1 w_1439 dJ0_isLatin1_aae02_7 ?_
  refine zt_if_ne C 17 dJ0_isLatin1_aae02_10 (by decide) (fun q => absurd rfl q) (fun _ => ?_)
  refine zt_iconst C (v := 1) dJ0_isLatin1_aae02_13 (by decide) ?_
  refine zt_goto C 18 dJ0_isLatin1_aae02_14 (by decide) ?_
  exact zt_ret C hr hk rfl dJ0_isLatin1_aae02_18 h
theorem m_J0_length (hJ : za_J g) {u : Nat} (hu : u < 2) (h : K 3 M) : za_Mi l g D cy yJ0_length_8abf5 cJ0_length_8abf5 1 (some .int) 2 84 [.ref (g (41, 0, u))] M K := by
  refine za_openi hJ (by decide) (Nat.le_of_ble_eq_true rfl) (fun p e s m args below meth c C hr hk => ?_)
  have hT := ((za_FS C).1 u hu).2.2.2
  have h3 : ([3, 3] : List Nat).getD u 0 = 3 := by
    have hc : u = 0 ∨ u = 1 := by omega
    rcases hc with rfl | rfl <;> rfl
  rw [h3] at hT
  refine zt_aload_n C 0 dJ0_length_8abf5_0 rfl rfl ?_
  refine zt_getO C ((za_FS C).1 u hu).2.2.1 w_1438 dJ0_length_8abf5_1 ?_
  refine zt_tlen C (v := 3) hT (by decide) dJ0_length_8abf5_4 ?_
  refine zt_aload_n C 0 dJ0_length_8abf5_5 rfl rfl ?_
  refine zt_cKi (K := fun r M' => r = 0 ∧ M' = M) C hu rfl [] (m_J0_coder hJ hu ⟨rfl, rfl⟩) py_J0_coder_7d493 pv_RJ0_335 (Nat.le_of_ble_eq_true rfl) ⟨Nat.le_of_ble_eq_true rfl, Nat.le_of_ble_eq_true rfl⟩ ⟨Nat.zero_le _, Nat.zero_le _⟩ dJ0_length_8abf5_6 rfl ?_
  rintro r M' ⟨rfl, rfl⟩
  refine zt_ishr C dJ0_length_8abf5_9 ?_
  rw [show (3 : Int32) >>> ((0 : Int32) &&& 31) = 3 by decide]
  exact zt_ret C hr hk rfl dJ0_length_8abf5_10 h
theorem m_J0_charAt (hJ : za_J g) {u i : Nat} (hu : u < 2) (hi : i < 3) (h : K (za_t1 (3 * u + i)) M) : za_Mi l g D cy yJ0_charAt_5068e cJ0_charAt_5068e 2 (some .char) 4 128 [.ref (g (41, 0, u)), .int (nI i)] M K := by
  refine za_openi hJ (by decide) (Nat.le_of_ble_eq_true rfl) (fun p e s m args below meth c C hr hk => ?_)
  refine zt_aload_n C 0 dJ0_charAt_5068e_0 rfl rfl ?_
  refine zt_cKi (K := fun r M' => r = 1 ∧ M' = M) C hu rfl [] (m_J0_isLatin1 hJ hu ⟨rfl, rfl⟩) py_J0_isLatin1_aae02 pv_RJ0_492 (Nat.le_of_ble_eq_true rfl) ⟨Nat.le_of_ble_eq_true rfl, Nat.le_of_ble_eq_true rfl⟩ ⟨Nat.zero_le _, Nat.zero_le _⟩ dJ0_charAt_5068e_1 rfl ?_
  rintro r M' ⟨rfl, rfl⟩
  refine zt_if_eq C 16 dJ0_charAt_5068e_4 (by decide) (fun q => absurd q (by decide)) (fun _ => ?_)
  refine zt_aload_n C 0 dJ0_charAt_5068e_7 rfl rfl ?_
  refine zt_getO C ((za_FS C).1 u hu).2.2.1 w_1438 dJ0_charAt_5068e_8 ?_
  refine zt_iload_n C 1 dJ0_charAt_5068e_11 rfl rfl ?_
  refine zt_cSi (K := fun r M1 => r = za_t1 (3 * u + i) ∧ M1 = M') C [.ref (g (43, 0, u)), .int (nI i)] (m_J1_charAt hJ hu hi ⟨rfl, rfl⟩) py_J1_charAt_3b067 ps_RJ0_495 (Nat.le_of_ble_eq_true rfl) ⟨Nat.le_of_ble_eq_true rfl, Nat.le_of_ble_eq_true rfl⟩ ⟨Nat.zero_le _, Nat.zero_le _⟩ dJ0_charAt_5068e_12 rfl ?_
  rintro r M1 ⟨rfl, rfl⟩
  exact zt_ret C hr hk (zj_nr _ (by omega)) dJ0_charAt_5068e_15 h
end ZK
theorem w_X10n28 : Cond.fieldLink RX10 28 "AshLoansModel" "NAMED" "[Ljava/lang/String;" ∈ lw_gd := za_gd 894 (by decide +kernel) rfl
theorem pf_X10n28 : za_FL RX10 28 10 5 23 RX10 TX10 "AshLoansModel" := ⟨rfl, gin_X10, by decide, w_X10n28, rfl⟩
section ZN
variable {p : Program} {l : Launch} {e : Env} {s : State} {m : MethodId} {args : Array Value} {below : List Frame} {meth : Method} {c : Code} {Q : State → Prop} {g : za_L → Nat} {D : va_G} {cy : Nat → ClassId} {M : za_M}
abbrev zj_lv (g : za_L → Nat) (x r : Int32) (i : Nat) : List (Nat × Value) := [(0, .ref (g (27, 0, 0))), (1, .int x), (2, .int r), (3, .int (nI i))]
theorem zj_str (C : za_C p s m args c cX10_nameOf 4 RX10 g D cy) {u i : Nat} {x r : Int32} {pc : Nat} {rest : List Value} (hu : u < 2) (e8 : M.1 (27, 0, 0) 8 = nI u) (d1 : decode cX10_nameOf pc = .ok (.aload_n 0, 1)) (d2 : decode cX10_nameOf (pc + 1) = .ok (.getfield 28, 3)) (d3 : decode cX10_nameOf (pc + 1 + 3) = .ok (.aload_n 0, 1)) (d4 : decode cX10_nameOf (pc + 1 + 3 + 1) = .ok (.getfield 120, 3)) (d5 : decode cX10_nameOf (pc + 1 + 3 + 1 + 3) = .ok (.aaload, 1)) (kk : zt p l e (za_rm 8 400) s m args below meth c 0 0 Q g D cy 4 M (pc + 1 + 3 + 1 + 3 + 1) (zj_lv g x r i) (.ref (g (41, 0, u)) :: rest)) : zt p l e (za_rm 8 400) s m args below meth c 0 0 Q g D cy 4 M pc (zj_lv g x r i) rest := by
  refine zt_aload_n C 0 d1 rfl rfl ?_
  refine zt_get C (za_mem (j := 27) rfl (by decide) (by decide)) pf_X10n28 (za_E_27 g cy M 0 0) rfl d2 ?_
  refine zt_aload_n C 0 d3 rfl rfl ?_
  refine zt_get C (za_mem (j := 27) rfl (by decide) (by decide)) pf_X10_120 (za_E_27 g cy M 0 0) rfl d4 ?_
  rw [e8]
  refine zt_aald C (h := fun j => g (41, 0, j)) (za_mem (j := 32) rfl (by decide) (by decide)) (za_E_32 g cy M 0 0) rfl (vp_in_nI hu (by decide)) d5 ?_
  rw [nI_clamp (by omega)]
  exact kk
theorem zj_step (hJ : za_J g) (C : za_C p s m args c cX10_nameOf 4 RX10 g D cy) {u i : Nat} {x r : Int32} (hu : u < 2) (hi : i < 3) (e8 : M.1 (27, 0, 0) 8 = nI u) (kk : zt p l e (za_rm 8 400) s m args below meth c 0 0 Q g D cy 4 M 4 (zj_lv g x (if za_t1 (3 * u + i) = x then nI i else r) (i + 1)) []) : zt p l e (za_rm 8 400) s m args below meth c 0 0 Q g D cy 4 M 4 (zj_lv g x r i) [] := by
  refine zt_iload_n C 3 dX10_nameOf_4 rfl rfl ?_
  refine zj_str C hu e8 dX10_nameOf_5 dX10_nameOf_6 dX10_nameOf_9 dX10_nameOf_10 dX10_nameOf_13 ?_
  refine zt_cKi (K := fun r M' => r = 3 ∧ M' = M) C hu rfl [] (m_J0_length hJ hu ⟨rfl, rfl⟩) py_J0_length_8abf5 pv_RX10_123 (Nat.le_of_ble_eq_true rfl) ⟨Nat.le_of_ble_eq_true rfl, Nat.le_of_ble_eq_true rfl⟩ ⟨Nat.zero_le _, Nat.zero_le _⟩ dX10_nameOf_14 rfl ?_
  rintro r1 M' ⟨rfl, rfl⟩
  refine zt_icmp_ge C 49 dX10_nameOf_17 (by decide) (fun q => absurd q (nI_ge (b := 3) hi (by decide))) (fun _ => ?_)
  refine zj_str C hu e8 dX10_nameOf_20 dX10_nameOf_21 dX10_nameOf_24 dX10_nameOf_25 dX10_nameOf_28 ?_
  refine zt_iload_n C 3 dX10_nameOf_29 rfl rfl ?_
  refine zt_cKi (K := fun r M1 => r = za_t1 (3 * u + i) ∧ M1 = M') C hu rfl [.int (nI i)] (m_J0_charAt hJ hu hi ⟨rfl, rfl⟩) py_J0_charAt_5068e pv_RX10_126 (Nat.le_of_ble_eq_true rfl) ⟨Nat.le_of_ble_eq_true rfl, Nat.le_of_ble_eq_true rfl⟩ ⟨Nat.zero_le _, Nat.zero_le _⟩ dX10_nameOf_30 rfl ?_
  rintro r2 M1 ⟨rfl, rfl⟩
  refine zt_iload_n C 1 dX10_nameOf_33 rfl rfl ?_
  have fin : ∀ v : Int32, (if za_t1 (3 * u + i) = x then nI i else r) = v → zt p l e (za_rm 8 400) s m args below meth c 0 0 Q g D cy 4 M1 42 (zj_lv g x r i) [.int v] := by
    rintro v rfl
    refine zt_istore_n C _ dX10_nameOf_42 rfl (by decide) rfl ?_
    refine zt_iinc C (v := nI (i + 1)) 3 _ dX10_nameOf_43 rfl (by rw [← nI_1]; rfl) (by decide) rfl ?_
    refine zt_goto C 4 dX10_nameOf_46 (by decide) ?_
    exact zt_sub [2, 3, 1, 0] rfl kk
  refine zt_icmp_ne C 41 dX10_nameOf_34 (by decide) (fun q => ?_) (fun q => ?_)
  · refine zt_iload_n C 2 dX10_nameOf_41 rfl rfl ?_
    exact fin r (if_neg q)
  · refine zt_iload_n C 3 dX10_nameOf_37 rfl rfl ?_
    refine zt_goto C 42 dX10_nameOf_38 (by decide) ?_
    exact fin (nI i) (if_pos q)
end ZN
theorem m_X10_nameOf {l : Launch} {g : za_L → Nat} {D : va_G} {cy : Nat → ClassId} (hJ : za_J g) {x1 : Int32} {M : za_M} {K : Int32 → za_M → Prop} (h : f_X10_nameOf x1 M K) : za_Mi l g D cy yX10_nameOf cX10_nameOf 4 (some .int) 8 400 [.ref (g (27, 0, 0)), .int x1] M K := by
  obtain ⟨h1, h⟩ := h
  obtain ⟨u, hu, e8⟩ := vp_in_of h1 (by decide)
  rw [e8, nI_clamp (by omega)] at h
  refine za_openi hJ (by decide) (Nat.le_of_ble_eq_true rfl) (fun p e s m args below meth c C hr hk => ?_)
  refine zt_iconst C (v := (-1)) dX10_nameOf_0 (by decide) ?_
  refine zt_istore_n C _ dX10_nameOf_1 rfl (by decide) rfl ?_
  refine zt_iconst C (v := nI 0) dX10_nameOf_2 (by decide) ?_
  refine zt_istore_n C _ dX10_nameOf_3 rfl (by decide) rfl ?_
  refine zt_sub [2, 3, 1, 0] (lv' := zj_lv g x1 (-1) 0) rfl ?_
  refine zj_step hJ C hu (by decide) e8 ?_
  refine zj_step hJ C hu (by decide) e8 ?_
  refine zj_step hJ C hu (by decide) e8 ?_
  refine zt_iload_n C 3 dX10_nameOf_4 rfl rfl ?_
  refine zj_str C hu e8 dX10_nameOf_5 dX10_nameOf_6 dX10_nameOf_9 dX10_nameOf_10 dX10_nameOf_13 ?_
  refine zt_cKi (K := fun r M' => r = 3 ∧ M' = M) C hu rfl [] (m_J0_length hJ hu ⟨rfl, rfl⟩) py_J0_length_8abf5 pv_RX10_123 (Nat.le_of_ble_eq_true rfl) ⟨Nat.le_of_ble_eq_true rfl, Nat.le_of_ble_eq_true rfl⟩ ⟨Nat.zero_le _, Nat.zero_le _⟩ dX10_nameOf_14 rfl ?_
  rintro r1 M' ⟨rfl, rfl⟩
  refine zt_icmp_ge C 49 dX10_nameOf_17 (by decide) (fun _ => ?_) (fun q => absurd (by decide) q)
  refine zt_iload_n C 2 dX10_nameOf_49 rfl rfl ?_
  refine zt_ret C hr hk rfl dX10_nameOf_50 ?_
  exact h
end
