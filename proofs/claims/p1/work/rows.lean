section
-- ===== PART A: goes FIRST, ahead of the names: the tables' words, and 'selects' of the private methods out of them =====
/-- a private method of a class that the tables say can be made, by its rows of tables_1 -/
def lw_okq (q : MethodName × Nat) : Prop := (q.1.cls ≠ "java/lang/invoke/MethodHandle" ∧ q.1.cls ≠ "java/lang/invoke/VarHandle") ∧ Cond.instantiable q.1.cls q.2 ∈ tables_1 ∧ Cond.privateMethod q.1 ∈ tables_1 ∧ Cond.instanceMethod q.1 ∈ tables_1
theorem lw_p0 : lw_okq (⟨"MissingLamps", "refuse", "(I)I"⟩, 16) := ⟨⟨by decide +kernel, by decide +kernel⟩, List.mem_of_getElem? (i := 23) (by decide +kernel), List.mem_of_getElem? (i := 562) (by decide +kernel), List.mem_of_getElem? (i := 563) (by decide +kernel)⟩
theorem lw_p1 : lw_okq (⟨"MissingLamps", "putOnTape", "(I)V"⟩, 16) := ⟨⟨by decide +kernel, by decide +kernel⟩, List.mem_of_getElem? (i := 23) (by decide +kernel), List.mem_of_getElem? (i := 566) (by decide +kernel), List.mem_of_getElem? (i := 567) (by decide +kernel)⟩
theorem lw_p2 : lw_okq (⟨"MissingLamps", "refused", "(I)Z"⟩, 16) := ⟨⟨by decide +kernel, by decide +kernel⟩, List.mem_of_getElem? (i := 23) (by decide +kernel), List.mem_of_getElem? (i := 574) (by decide +kernel), List.mem_of_getElem? (i := 575) (by decide +kernel)⟩
theorem lw_p3 : lw_okq (⟨"MissingLamps", "takeTape", "()I"⟩, 16) := ⟨⟨by decide +kernel, by decide +kernel⟩, List.mem_of_getElem? (i := 23) (by decide +kernel), List.mem_of_getElem? (i := 582) (by decide +kernel), List.mem_of_getElem? (i := 583) (by decide +kernel)⟩
theorem lw_p4 : lw_okq (⟨"MissingLamps$Reader", "readWord", "(Z)V"⟩, 12) := ⟨⟨by decide +kernel, by decide +kernel⟩, List.mem_of_getElem? (i := 168) (by decide +kernel), List.mem_of_getElem? (i := 609) (by decide +kernel), List.mem_of_getElem? (i := 610) (by decide +kernel)⟩
theorem lw_p5 : lw_okq (⟨"MissingLamps$Reader", "readNumber", "(Z)V"⟩, 12) := ⟨⟨by decide +kernel, by decide +kernel⟩, List.mem_of_getElem? (i := 168) (by decide +kernel), List.mem_of_getElem? (i := 613) (by decide +kernel), List.mem_of_getElem? (i := 614) (by decide +kernel)⟩
theorem lw_p6 : lw_okq (⟨"MissingLamps$StatementReader", "takesSize", "()Z"⟩, 4) := ⟨⟨by decide +kernel, by decide +kernel⟩, List.mem_of_getElem? (i := 162) (by decide +kernel), List.mem_of_getElem? (i := 617) (by decide +kernel), List.mem_of_getElem? (i := 618) (by decide +kernel)⟩
theorem lw_p7 : lw_okq (⟨"MissingLamps$StatementReader", "takesStatement", "()Z"⟩, 4) := ⟨⟨by decide +kernel, by decide +kernel⟩, List.mem_of_getElem? (i := 162) (by decide +kernel), List.mem_of_getElem? (i := 649) (by decide +kernel), List.mem_of_getElem? (i := 650) (by decide +kernel)⟩
theorem lw_p8 : lw_okq (⟨"MissingLamps$StatementReader", "takesPace", "()Z"⟩, 4) := ⟨⟨by decide +kernel, by decide +kernel⟩, List.mem_of_getElem? (i := 162) (by decide +kernel), List.mem_of_getElem? (i := 653) (by decide +kernel), List.mem_of_getElem? (i := 654) (by decide +kernel)⟩
theorem lw_p9 : lw_okq (⟨"MissingLamps$StatementReader", "takesGale", "()Z"⟩, 4) := ⟨⟨by decide +kernel, by decide +kernel⟩, List.mem_of_getElem? (i := 162) (by decide +kernel), List.mem_of_getElem? (i := 658) (by decide +kernel), List.mem_of_getElem? (i := 659) (by decide +kernel)⟩
theorem lw_p10 : lw_okq (⟨"MissingLamps$StatementReader", "takesWall", "()Z"⟩, 4) := ⟨⟨by decide +kernel, by decide +kernel⟩, List.mem_of_getElem? (i := 162) (by decide +kernel), List.mem_of_getElem? (i := 662) (by decide +kernel), List.mem_of_getElem? (i := 663) (by decide +kernel)⟩
theorem lw_p11 : lw_okq (⟨"MissingLamps$StatementReader", "takesCell", "(J)Z"⟩, 4) := ⟨⟨by decide +kernel, by decide +kernel⟩, List.mem_of_getElem? (i := 162) (by decide +kernel), List.mem_of_getElem? (i := 673) (by decide +kernel), List.mem_of_getElem? (i := 674) (by decide +kernel)⟩
theorem lw_p12 : lw_okq (⟨"MissingLamps$StatementReader", "takesLack", "()Z"⟩, 4) := ⟨⟨by decide +kernel, by decide +kernel⟩, List.mem_of_getElem? (i := 162) (by decide +kernel), List.mem_of_getElem? (i := 682) (by decide +kernel), List.mem_of_getElem? (i := 683) (by decide +kernel)⟩
theorem lw_p13 : lw_okq (⟨"MissingLamps$StatementReader", "takesNewName", "()Z"⟩, 4) := ⟨⟨by decide +kernel, by decide +kernel⟩, List.mem_of_getElem? (i := 162) (by decide +kernel), List.mem_of_getElem? (i := 686) (by decide +kernel), List.mem_of_getElem? (i := 687) (by decide +kernel)⟩
theorem lw_p14 : lw_okq (⟨"MissingLamps$StatementReader", "takesHas", "()Z"⟩, 4) := ⟨⟨by decide +kernel, by decide +kernel⟩, List.mem_of_getElem? (i := 162) (by decide +kernel), List.mem_of_getElem? (i := 702) (by decide +kernel), List.mem_of_getElem? (i := 703) (by decide +kernel)⟩
theorem lw_p15 : lw_okq (⟨"MissingLamps$StatementReader", "takesFolk", "()Z"⟩, 4) := ⟨⟨by decide +kernel, by decide +kernel⟩, List.mem_of_getElem? (i := 162) (by decide +kernel), List.mem_of_getElem? (i := 707) (by decide +kernel), List.mem_of_getElem? (i := 708) (by decide +kernel)⟩
def lw_privs_1 : List (MethodName × Nat) := [(⟨"MissingLamps", "refuse", "(I)I"⟩, 16), (⟨"MissingLamps", "putOnTape", "(I)V"⟩, 16), (⟨"MissingLamps", "refused", "(I)Z"⟩, 16), (⟨"MissingLamps", "takeTape", "()I"⟩, 16), (⟨"MissingLamps$Reader", "readWord", "(Z)V"⟩, 12), (⟨"MissingLamps$Reader", "readNumber", "(Z)V"⟩, 12), (⟨"MissingLamps$StatementReader", "takesSize", "()Z"⟩, 4), (⟨"MissingLamps$StatementReader", "takesStatement", "()Z"⟩, 4), (⟨"MissingLamps$StatementReader", "takesPace", "()Z"⟩, 4), (⟨"MissingLamps$StatementReader", "takesGale", "()Z"⟩, 4), (⟨"MissingLamps$StatementReader", "takesWall", "()Z"⟩, 4), (⟨"MissingLamps$StatementReader", "takesCell", "(J)Z"⟩, 4), (⟨"MissingLamps$StatementReader", "takesLack", "()Z"⟩, 4), (⟨"MissingLamps$StatementReader", "takesNewName", "()Z"⟩, 4), (⟨"MissingLamps$StatementReader", "takesHas", "()Z"⟩, 4), (⟨"MissingLamps$StatementReader", "takesFolk", "()Z"⟩, 4)]
theorem lw_r1 : ∀ q ∈ lw_privs_1, lw_okq q := List.forall_mem_cons.mpr ⟨lw_p0, List.forall_mem_cons.mpr ⟨lw_p1, List.forall_mem_cons.mpr ⟨lw_p2, List.forall_mem_cons.mpr ⟨lw_p3, List.forall_mem_cons.mpr ⟨lw_p4, List.forall_mem_cons.mpr ⟨lw_p5, List.forall_mem_cons.mpr ⟨lw_p6, List.forall_mem_cons.mpr ⟨lw_p7, List.forall_mem_cons.mpr ⟨lw_p8, List.forall_mem_cons.mpr ⟨lw_p9, List.forall_mem_cons.mpr ⟨lw_p10, List.forall_mem_cons.mpr ⟨lw_p11, List.forall_mem_cons.mpr ⟨lw_p12, List.forall_mem_cons.mpr ⟨lw_p13, List.forall_mem_cons.mpr ⟨lw_p14, List.forall_mem_cons.mpr ⟨lw_p15, fun _ h => absurd h List.not_mem_nil⟩⟩⟩⟩⟩⟩⟩⟩⟩⟩⟩⟩⟩⟩⟩⟩
theorem lw_p16 : lw_okq (⟨"MissingLamps$StatementReader", "takesRule", "(I)Z"⟩, 4) := ⟨⟨by decide +kernel, by decide +kernel⟩, List.mem_of_getElem? (i := 162) (by decide +kernel), List.mem_of_getElem? (i := 711) (by decide +kernel), List.mem_of_getElem? (i := 712) (by decide +kernel)⟩
theorem lw_p17 : lw_okq (⟨"MissingLamps$SumReader", "takesSum", "(I)Z"⟩, 3) := ⟨⟨by decide +kernel, by decide +kernel⟩, List.mem_of_getElem? (i := 272) (by decide +kernel), List.mem_of_getElem? (i := 727) (by decide +kernel), List.mem_of_getElem? (i := 728) (by decide +kernel)⟩
theorem lw_p18 : lw_okq (⟨"MissingLamps$SumReader", "takesProduct", "(I)Z"⟩, 3) := ⟨⟨by decide +kernel, by decide +kernel⟩, List.mem_of_getElem? (i := 272) (by decide +kernel), List.mem_of_getElem? (i := 731) (by decide +kernel), List.mem_of_getElem? (i := 732) (by decide +kernel)⟩
theorem lw_p19 : lw_okq (⟨"MissingLamps$SumReader", "takesPart", "(I)Z"⟩, 3) := ⟨⟨by decide +kernel, by decide +kernel⟩, List.mem_of_getElem? (i := 272) (by decide +kernel), List.mem_of_getElem? (i := 735) (by decide +kernel), List.mem_of_getElem? (i := 736) (by decide +kernel)⟩
theorem lw_p20 : lw_okq (⟨"MissingLamps$SumReader", "opens", "(IZ)Z"⟩, 3) := ⟨⟨by decide +kernel, by decide +kernel⟩, List.mem_of_getElem? (i := 272) (by decide +kernel), List.mem_of_getElem? (i := 745) (by decide +kernel), List.mem_of_getElem? (i := 746) (by decide +kernel)⟩
theorem lw_p21 : lw_okq (⟨"MissingLamps$SumReader", "isValue", "(I)Z"⟩, 3) := ⟨⟨by decide +kernel, by decide +kernel⟩, List.mem_of_getElem? (i := 272) (by decide +kernel), List.mem_of_getElem? (i := 752) (by decide +kernel), List.mem_of_getElem? (i := 753) (by decide +kernel)⟩
theorem lw_p22 : lw_okq (⟨"MissingLamps$SumReader", "takesPair", "(I)Z"⟩, 3) := ⟨⟨by decide +kernel, by decide +kernel⟩, List.mem_of_getElem? (i := 272) (by decide +kernel), List.mem_of_getElem? (i := 756) (by decide +kernel), List.mem_of_getElem? (i := 757) (by decide +kernel)⟩
theorem lw_p23 : lw_okq (⟨"MissingLamps$SumReader", "takesTest", "(I)Z"⟩, 3) := ⟨⟨by decide +kernel, by decide +kernel⟩, List.mem_of_getElem? (i := 272) (by decide +kernel), List.mem_of_getElem? (i := 760) (by decide +kernel), List.mem_of_getElem? (i := 761) (by decide +kernel)⟩
theorem lw_p24 : lw_okq (⟨"MissingLamps$SumReader", "takesBoth", "(I)Z"⟩, 3) := ⟨⟨by decide +kernel, by decide +kernel⟩, List.mem_of_getElem? (i := 272) (by decide +kernel), List.mem_of_getElem? (i := 764) (by decide +kernel), List.mem_of_getElem? (i := 765) (by decide +kernel)⟩
theorem lw_p25 : lw_okq (⟨"MissingLamps$SumReader", "takesFact", "(I)Z"⟩, 3) := ⟨⟨by decide +kernel, by decide +kernel⟩, List.mem_of_getElem? (i := 272) (by decide +kernel), List.mem_of_getElem? (i := 768) (by decide +kernel), List.mem_of_getElem? (i := 769) (by decide +kernel)⟩
theorem lw_p26 : lw_okq (⟨"MissingLamps$SumReader", "takesComparison", "(I)Z"⟩, 3) := ⟨⟨by decide +kernel, by decide +kernel⟩, List.mem_of_getElem? (i := 272) (by decide +kernel), List.mem_of_getElem? (i := 773) (by decide +kernel), List.mem_of_getElem? (i := 774) (by decide +kernel)⟩
theorem lw_p27 : lw_okq (⟨"MissingLamps$SumReader", "isFactorSign", "()Z"⟩, 3) := ⟨⟨by decide +kernel, by decide +kernel⟩, List.mem_of_getElem? (i := 272) (by decide +kernel), List.mem_of_getElem? (i := 777) (by decide +kernel), List.mem_of_getElem? (i := 778) (by decide +kernel)⟩
theorem lw_p28 : lw_okq (⟨"MissingLamps", "forgetActs", "()V"⟩, 16) := ⟨⟨by decide +kernel, by decide +kernel⟩, List.mem_of_getElem? (i := 23) (by decide +kernel), List.mem_of_getElem? (i := 805) (by decide +kernel), List.mem_of_getElem? (i := 806) (by decide +kernel)⟩
theorem lw_p29 : lw_okq (⟨"MissingLamps$Harbour", "hueOf", "(LMissingLamps$State;I)I"⟩, 5) := ⟨⟨by decide +kernel, by decide +kernel⟩, List.mem_of_getElem? (i := 394) (by decide +kernel), List.mem_of_getElem? (i := 846) (by decide +kernel), List.mem_of_getElem? (i := 847) (by decide +kernel)⟩
theorem lw_p30 : lw_okq (⟨"MissingLamps$Harbour", "setOut", "(LMissingLamps$State;I)V"⟩, 5) := ⟨⟨by decide +kernel, by decide +kernel⟩, List.mem_of_getElem? (i := 394) (by decide +kernel), List.mem_of_getElem? (i := 850) (by decide +kernel), List.mem_of_getElem? (i := 851) (by decide +kernel)⟩
theorem lw_p31 : lw_okq (⟨"MissingLamps$Reckoner", "named", "(I)I"⟩, 7) := ⟨⟨by decide +kernel, by decide +kernel⟩, List.mem_of_getElem? (i := 400) (by decide +kernel), List.mem_of_getElem? (i := 879) (by decide +kernel), List.mem_of_getElem? (i := 880) (by decide +kernel)⟩
def lw_privs_2 : List (MethodName × Nat) := [(⟨"MissingLamps$StatementReader", "takesRule", "(I)Z"⟩, 4), (⟨"MissingLamps$SumReader", "takesSum", "(I)Z"⟩, 3), (⟨"MissingLamps$SumReader", "takesProduct", "(I)Z"⟩, 3), (⟨"MissingLamps$SumReader", "takesPart", "(I)Z"⟩, 3), (⟨"MissingLamps$SumReader", "opens", "(IZ)Z"⟩, 3), (⟨"MissingLamps$SumReader", "isValue", "(I)Z"⟩, 3), (⟨"MissingLamps$SumReader", "takesPair", "(I)Z"⟩, 3), (⟨"MissingLamps$SumReader", "takesTest", "(I)Z"⟩, 3), (⟨"MissingLamps$SumReader", "takesBoth", "(I)Z"⟩, 3), (⟨"MissingLamps$SumReader", "takesFact", "(I)Z"⟩, 3), (⟨"MissingLamps$SumReader", "takesComparison", "(I)Z"⟩, 3), (⟨"MissingLamps$SumReader", "isFactorSign", "()Z"⟩, 3), (⟨"MissingLamps", "forgetActs", "()V"⟩, 16), (⟨"MissingLamps$Harbour", "hueOf", "(LMissingLamps$State;I)I"⟩, 5), (⟨"MissingLamps$Harbour", "setOut", "(LMissingLamps$State;I)V"⟩, 5), (⟨"MissingLamps$Reckoner", "named", "(I)I"⟩, 7)]
theorem lw_r2 : ∀ q ∈ lw_privs_2, lw_okq q := List.forall_mem_cons.mpr ⟨lw_p16, List.forall_mem_cons.mpr ⟨lw_p17, List.forall_mem_cons.mpr ⟨lw_p18, List.forall_mem_cons.mpr ⟨lw_p19, List.forall_mem_cons.mpr ⟨lw_p20, List.forall_mem_cons.mpr ⟨lw_p21, List.forall_mem_cons.mpr ⟨lw_p22, List.forall_mem_cons.mpr ⟨lw_p23, List.forall_mem_cons.mpr ⟨lw_p24, List.forall_mem_cons.mpr ⟨lw_p25, List.forall_mem_cons.mpr ⟨lw_p26, List.forall_mem_cons.mpr ⟨lw_p27, List.forall_mem_cons.mpr ⟨lw_p28, List.forall_mem_cons.mpr ⟨lw_p29, List.forall_mem_cons.mpr ⟨lw_p30, List.forall_mem_cons.mpr ⟨lw_p31, fun _ h => absurd h List.not_mem_nil⟩⟩⟩⟩⟩⟩⟩⟩⟩⟩⟩⟩⟩⟩⟩⟩
theorem lw_p32 : lw_okq (⟨"MissingLamps", "isThing", "(I)Z"⟩, 16) := ⟨⟨by decide +kernel, by decide +kernel⟩, List.mem_of_getElem? (i := 23) (by decide +kernel), List.mem_of_getElem? (i := 906) (by decide +kernel), List.mem_of_getElem? (i := 907) (by decide +kernel)⟩
theorem lw_p33 : lw_okq (⟨"MissingLamps", "isFolk", "(I)Z"⟩, 16) := ⟨⟨by decide +kernel, by decide +kernel⟩, List.mem_of_getElem? (i := 23) (by decide +kernel), List.mem_of_getElem? (i := 913) (by decide +kernel), List.mem_of_getElem? (i := 914) (by decide +kernel)⟩
theorem lw_p34 : lw_okq (⟨"MissingLamps", "comes", "(II)Z"⟩, 16) := ⟨⟨by decide +kernel, by decide +kernel⟩, List.mem_of_getElem? (i := 23) (by decide +kernel), List.mem_of_getElem? (i := 955) (by decide +kernel), List.mem_of_getElem? (i := 956) (by decide +kernel)⟩
theorem lw_p35 : lw_okq (⟨"MissingLamps$Harbour", "settle", "(LMissingLamps$State;)V"⟩, 5) := ⟨⟨by decide +kernel, by decide +kernel⟩, List.mem_of_getElem? (i := 394) (by decide +kernel), List.mem_of_getElem? (i := 981) (by decide +kernel), List.mem_of_getElem? (i := 982) (by decide +kernel)⟩
theorem lw_p36 : lw_okq (⟨"MissingLamps$Harbour", "isLost", "(LMissingLamps$State;I)Z"⟩, 5) := ⟨⟨by decide +kernel, by decide +kernel⟩, List.mem_of_getElem? (i := 394) (by decide +kernel), List.mem_of_getElem? (i := 985) (by decide +kernel), List.mem_of_getElem? (i := 986) (by decide +kernel)⟩
theorem lw_p37 : lw_okq (⟨"MissingLamps$Harbour", "isFound", "(LMissingLamps$State;I)Z"⟩, 5) := ⟨⟨by decide +kernel, by decide +kernel⟩, List.mem_of_getElem? (i := 394) (by decide +kernel), List.mem_of_getElem? (i := 989) (by decide +kernel), List.mem_of_getElem? (i := 990) (by decide +kernel)⟩
theorem lw_p38 : lw_okq (⟨"MissingLamps$Harbour", "near", "(LMissingLamps$State;I)I"⟩, 5) := ⟨⟨by decide +kernel, by decide +kernel⟩, List.mem_of_getElem? (i := 394) (by decide +kernel), List.mem_of_getElem? (i := 993) (by decide +kernel), List.mem_of_getElem? (i := 994) (by decide +kernel)⟩
theorem lw_p39 : lw_okq (⟨"MissingLamps$Planner", "lightOf", "(I)J"⟩, 13) := ⟨⟨by decide +kernel, by decide +kernel⟩, List.mem_of_getElem? (i := 454) (by decide +kernel), List.mem_of_getElem? (i := 1047) (by decide +kernel), List.mem_of_getElem? (i := 1048) (by decide +kernel)⟩
theorem lw_p40 : lw_okq (⟨"MissingLamps$Planner", "measure", "(LMissingLamps$State;)V"⟩, 13) := ⟨⟨by decide +kernel, by decide +kernel⟩, List.mem_of_getElem? (i := 454) (by decide +kernel), List.mem_of_getElem? (i := 1059) (by decide +kernel), List.mem_of_getElem? (i := 1060) (by decide +kernel)⟩
theorem lw_p41 : lw_okq (⟨"MissingLamps$Planner", "weigh", "(I)V"⟩, 13) := ⟨⟨by decide +kernel, by decide +kernel⟩, List.mem_of_getElem? (i := 454) (by decide +kernel), List.mem_of_getElem? (i := 1065) (by decide +kernel), List.mem_of_getElem? (i := 1066) (by decide +kernel)⟩
theorem lw_p42 : lw_okq (⟨"MissingLamps$Planner", "worthWith", "(III)I"⟩, 13) := ⟨⟨by decide +kernel, by decide +kernel⟩, List.mem_of_getElem? (i := 454) (by decide +kernel), List.mem_of_getElem? (i := 1069) (by decide +kernel), List.mem_of_getElem? (i := 1070) (by decide +kernel)⟩
theorem lw_p43 : lw_okq (⟨"MissingLamps$Planner", "firstBest", "(II)I"⟩, 13) := ⟨⟨by decide +kernel, by decide +kernel⟩, List.mem_of_getElem? (i := 454) (by decide +kernel), List.mem_of_getElem? (i := 1074) (by decide +kernel), List.mem_of_getElem? (i := 1075) (by decide +kernel)⟩
theorem lw_p44 : lw_okq (⟨"MissingLamps$Planner", "lastMetNight", "()I"⟩, 13) := ⟨⟨by decide +kernel, by decide +kernel⟩, List.mem_of_getElem? (i := 454) (by decide +kernel), List.mem_of_getElem? (i := 1106) (by decide +kernel), List.mem_of_getElem? (i := 1107) (by decide +kernel)⟩
theorem lw_p45 : lw_okq (⟨"MissingLamps$Planner", "fitsMet", "(LMissingLamps$State;I)Z"⟩, 13) := ⟨⟨by decide +kernel, by decide +kernel⟩, List.mem_of_getElem? (i := 454) (by decide +kernel), List.mem_of_getElem? (i := 1110) (by decide +kernel), List.mem_of_getElem? (i := 1111) (by decide +kernel)⟩
theorem lw_p46 : lw_okq (⟨"MissingLamps$Planner", "supposeAll", "(LMissingLamps$State;II)I"⟩, 13) := ⟨⟨by decide +kernel, by decide +kernel⟩, List.mem_of_getElem? (i := 454) (by decide +kernel), List.mem_of_getElem? (i := 1123) (by decide +kernel), List.mem_of_getElem? (i := 1124) (by decide +kernel)⟩
theorem lw_p47 : lw_okq (⟨"MissingLamps$Planner", "mostAlike", "(II)I"⟩, 13) := ⟨⟨by decide +kernel, by decide +kernel⟩, List.mem_of_getElem? (i := 454) (by decide +kernel), List.mem_of_getElem? (i := 1127) (by decide +kernel), List.mem_of_getElem? (i := 1128) (by decide +kernel)⟩
def lw_privs_3 : List (MethodName × Nat) := [(⟨"MissingLamps", "isThing", "(I)Z"⟩, 16), (⟨"MissingLamps", "isFolk", "(I)Z"⟩, 16), (⟨"MissingLamps", "comes", "(II)Z"⟩, 16), (⟨"MissingLamps$Harbour", "settle", "(LMissingLamps$State;)V"⟩, 5), (⟨"MissingLamps$Harbour", "isLost", "(LMissingLamps$State;I)Z"⟩, 5), (⟨"MissingLamps$Harbour", "isFound", "(LMissingLamps$State;I)Z"⟩, 5), (⟨"MissingLamps$Harbour", "near", "(LMissingLamps$State;I)I"⟩, 5), (⟨"MissingLamps$Planner", "lightOf", "(I)J"⟩, 13), (⟨"MissingLamps$Planner", "measure", "(LMissingLamps$State;)V"⟩, 13), (⟨"MissingLamps$Planner", "weigh", "(I)V"⟩, 13), (⟨"MissingLamps$Planner", "worthWith", "(III)I"⟩, 13), (⟨"MissingLamps$Planner", "firstBest", "(II)I"⟩, 13), (⟨"MissingLamps$Planner", "lastMetNight", "()I"⟩, 13), (⟨"MissingLamps$Planner", "fitsMet", "(LMissingLamps$State;I)Z"⟩, 13), (⟨"MissingLamps$Planner", "supposeAll", "(LMissingLamps$State;II)I"⟩, 13), (⟨"MissingLamps$Planner", "mostAlike", "(II)I"⟩, 13)]
theorem lw_r3 : ∀ q ∈ lw_privs_3, lw_okq q := List.forall_mem_cons.mpr ⟨lw_p32, List.forall_mem_cons.mpr ⟨lw_p33, List.forall_mem_cons.mpr ⟨lw_p34, List.forall_mem_cons.mpr ⟨lw_p35, List.forall_mem_cons.mpr ⟨lw_p36, List.forall_mem_cons.mpr ⟨lw_p37, List.forall_mem_cons.mpr ⟨lw_p38, List.forall_mem_cons.mpr ⟨lw_p39, List.forall_mem_cons.mpr ⟨lw_p40, List.forall_mem_cons.mpr ⟨lw_p41, List.forall_mem_cons.mpr ⟨lw_p42, List.forall_mem_cons.mpr ⟨lw_p43, List.forall_mem_cons.mpr ⟨lw_p44, List.forall_mem_cons.mpr ⟨lw_p45, List.forall_mem_cons.mpr ⟨lw_p46, List.forall_mem_cons.mpr ⟨lw_p47, fun _ h => absurd h List.not_mem_nil⟩⟩⟩⟩⟩⟩⟩⟩⟩⟩⟩⟩⟩⟩⟩⟩
theorem lw_p48 : lw_okq (⟨"MissingLamps", "passAndKeep", "(I)I"⟩, 16) := ⟨⟨by decide +kernel, by decide +kernel⟩, List.mem_of_getElem? (i := 23) (by decide +kernel), List.mem_of_getElem? (i := 1146) (by decide +kernel), List.mem_of_getElem? (i := 1147) (by decide +kernel)⟩
theorem lw_p49 : lw_okq (⟨"MissingLamps", "drawDark", "()I"⟩, 16) := ⟨⟨by decide +kernel, by decide +kernel⟩, List.mem_of_getElem? (i := 23) (by decide +kernel), List.mem_of_getElem? (i := 1159) (by decide +kernel), List.mem_of_getElem? (i := 1160) (by decide +kernel)⟩
theorem lw_p50 : lw_okq (⟨"MissingLamps", "draw", "(I)I"⟩, 16) := ⟨⟨by decide +kernel, by decide +kernel⟩, List.mem_of_getElem? (i := 23) (by decide +kernel), List.mem_of_getElem? (i := 1163) (by decide +kernel), List.mem_of_getElem? (i := 1164) (by decide +kernel)⟩
theorem lw_p51 : lw_okq (⟨"MissingLamps", "turnByAct", "(I)V"⟩, 16) := ⟨⟨by decide +kernel, by decide +kernel⟩, List.mem_of_getElem? (i := 23) (by decide +kernel), List.mem_of_getElem? (i := 1174) (by decide +kernel), List.mem_of_getElem? (i := 1175) (by decide +kernel)⟩
theorem lw_p52 : lw_okq (⟨"MissingLamps", "holdsImage", "(I)Z"⟩, 16) := ⟨⟨by decide +kernel, by decide +kernel⟩, List.mem_of_getElem? (i := 23) (by decide +kernel), List.mem_of_getElem? (i := 1224) (by decide +kernel), List.mem_of_getElem? (i := 1225) (by decide +kernel)⟩
theorem lw_p53 : lw_okq (⟨"MissingLamps", "nightOnTape", "()I"⟩, 16) := ⟨⟨by decide +kernel, by decide +kernel⟩, List.mem_of_getElem? (i := 23) (by decide +kernel), List.mem_of_getElem? (i := 1228) (by decide +kernel), List.mem_of_getElem? (i := 1229) (by decide +kernel)⟩
theorem lw_p54 : lw_okq (⟨"MissingLampsModel", "refuses", "(I)I"⟩, 73) := ⟨⟨by decide +kernel, by decide +kernel⟩, List.mem_of_getElem? (i := 1236) (by decide +kernel), List.mem_of_getElem? (i := 1467) (by decide +kernel), List.mem_of_getElem? (i := 1468) (by decide +kernel)⟩
theorem lw_p55 : lw_okq (⟨"MissingLampsModel", "put", "(I)V"⟩, 73) := ⟨⟨by decide +kernel, by decide +kernel⟩, List.mem_of_getElem? (i := 1236) (by decide +kernel), List.mem_of_getElem? (i := 1471) (by decide +kernel), List.mem_of_getElem? (i := 1472) (by decide +kernel)⟩
theorem lw_p56 : lw_okq (⟨"MissingLampsModel", "ahead", "()V"⟩, 73) := ⟨⟨by decide +kernel, by decide +kernel⟩, List.mem_of_getElem? (i := 1236) (by decide +kernel), List.mem_of_getElem? (i := 1483) (by decide +kernel), List.mem_of_getElem? (i := 1484) (by decide +kernel)⟩
theorem lw_p57 : lw_okq (⟨"MissingLampsModel", "quaying", "()V"⟩, 73) := ⟨⟨by decide +kernel, by decide +kernel⟩, List.mem_of_getElem? (i := 1236) (by decide +kernel), List.mem_of_getElem? (i := 1493) (by decide +kernel), List.mem_of_getElem? (i := 1494) (by decide +kernel)⟩
theorem lw_p58 : lw_okq (⟨"MissingLampsModel", "must", "(J)V"⟩, 73) := ⟨⟨by decide +kernel, by decide +kernel⟩, List.mem_of_getElem? (i := 1236) (by decide +kernel), List.mem_of_getElem? (i := 1498) (by decide +kernel), List.mem_of_getElem? (i := 1499) (by decide +kernel)⟩
theorem lw_p59 : lw_okq (⟨"MissingLampsModel", "lex", "()V"⟩, 73) := ⟨⟨by decide +kernel, by decide +kernel⟩, List.mem_of_getElem? (i := 1236) (by decide +kernel), List.mem_of_getElem? (i := 1502) (by decide +kernel), List.mem_of_getElem? (i := 1503) (by decide +kernel)⟩
theorem lw_p60 : lw_okq (⟨"MissingLampsModel", "blame", "(II)V"⟩, 73) := ⟨⟨by decide +kernel, by decide +kernel⟩, List.mem_of_getElem? (i := 1236) (by decide +kernel), List.mem_of_getElem? (i := 1506) (by decide +kernel), List.mem_of_getElem? (i := 1507) (by decide +kernel)⟩
theorem lw_p61 : lw_okq (⟨"MissingLampsModel", "isWord", "(J)Z"⟩, 73) := ⟨⟨by decide +kernel, by decide +kernel⟩, List.mem_of_getElem? (i := 1236) (by decide +kernel), List.mem_of_getElem? (i := 1510) (by decide +kernel), List.mem_of_getElem? (i := 1511) (by decide +kernel)⟩
theorem lw_p62 : lw_okq (⟨"MissingLampsModel", "number", "(II)I"⟩, 73) := ⟨⟨by decide +kernel, by decide +kernel⟩, List.mem_of_getElem? (i := 1236) (by decide +kernel), List.mem_of_getElem? (i := 1514) (by decide +kernel), List.mem_of_getElem? (i := 1515) (by decide +kernel)⟩
theorem lw_p63 : lw_okq (⟨"MissingLampsModel", "finishes", "(I)V"⟩, 73) := ⟨⟨by decide +kernel, by decide +kernel⟩, List.mem_of_getElem? (i := 1236) (by decide +kernel), List.mem_of_getElem? (i := 1522) (by decide +kernel), List.mem_of_getElem? (i := 1523) (by decide +kernel)⟩
def lw_privs_4 : List (MethodName × Nat) := [(⟨"MissingLamps", "passAndKeep", "(I)I"⟩, 16), (⟨"MissingLamps", "drawDark", "()I"⟩, 16), (⟨"MissingLamps", "draw", "(I)I"⟩, 16), (⟨"MissingLamps", "turnByAct", "(I)V"⟩, 16), (⟨"MissingLamps", "holdsImage", "(I)Z"⟩, 16), (⟨"MissingLamps", "nightOnTape", "()I"⟩, 16), (⟨"MissingLampsModel", "refuses", "(I)I"⟩, 73), (⟨"MissingLampsModel", "put", "(I)V"⟩, 73), (⟨"MissingLampsModel", "ahead", "()V"⟩, 73), (⟨"MissingLampsModel", "quaying", "()V"⟩, 73), (⟨"MissingLampsModel", "must", "(J)V"⟩, 73), (⟨"MissingLampsModel", "lex", "()V"⟩, 73), (⟨"MissingLampsModel", "blame", "(II)V"⟩, 73), (⟨"MissingLampsModel", "isWord", "(J)Z"⟩, 73), (⟨"MissingLampsModel", "number", "(II)I"⟩, 73), (⟨"MissingLampsModel", "finishes", "(I)V"⟩, 73)]
theorem lw_r4 : ∀ q ∈ lw_privs_4, lw_okq q := List.forall_mem_cons.mpr ⟨lw_p48, List.forall_mem_cons.mpr ⟨lw_p49, List.forall_mem_cons.mpr ⟨lw_p50, List.forall_mem_cons.mpr ⟨lw_p51, List.forall_mem_cons.mpr ⟨lw_p52, List.forall_mem_cons.mpr ⟨lw_p53, List.forall_mem_cons.mpr ⟨lw_p54, List.forall_mem_cons.mpr ⟨lw_p55, List.forall_mem_cons.mpr ⟨lw_p56, List.forall_mem_cons.mpr ⟨lw_p57, List.forall_mem_cons.mpr ⟨lw_p58, List.forall_mem_cons.mpr ⟨lw_p59, List.forall_mem_cons.mpr ⟨lw_p60, List.forall_mem_cons.mpr ⟨lw_p61, List.forall_mem_cons.mpr ⟨lw_p62, List.forall_mem_cons.mpr ⟨lw_p63, fun _ h => absurd h List.not_mem_nil⟩⟩⟩⟩⟩⟩⟩⟩⟩⟩⟩⟩⟩⟩⟩⟩
theorem lw_p64 : lw_okq (⟨"MissingLampsModel", "isSign", "(I)Z"⟩, 73) := ⟨⟨by decide +kernel, by decide +kernel⟩, List.mem_of_getElem? (i := 1236) (by decide +kernel), List.mem_of_getElem? (i := 1526) (by decide +kernel), List.mem_of_getElem? (i := 1527) (by decide +kernel)⟩
theorem lw_p65 : lw_okq (⟨"MissingLampsModel", "must", "(I)V"⟩, 73) := ⟨⟨by decide +kernel, by decide +kernel⟩, List.mem_of_getElem? (i := 1236) (by decide +kernel), List.mem_of_getElem? (i := 1530) (by decide +kernel), List.mem_of_getElem? (i := 1531) (by decide +kernel)⟩
theorem lw_p66 : lw_okq (⟨"MissingLampsModel", "statement", "()V"⟩, 73) := ⟨⟨by decide +kernel, by decide +kernel⟩, List.mem_of_getElem? (i := 1236) (by decide +kernel), List.mem_of_getElem? (i := 1534) (by decide +kernel), List.mem_of_getElem? (i := 1535) (by decide +kernel)⟩
theorem lw_p67 : lw_okq (⟨"MissingLampsModel", "telling", "(II)I"⟩, 73) := ⟨⟨by decide +kernel, by decide +kernel⟩, List.mem_of_getElem? (i := 1236) (by decide +kernel), List.mem_of_getElem? (i := 1539) (by decide +kernel), List.mem_of_getElem? (i := 1540) (by decide +kernel)⟩
theorem lw_p68 : lw_okq (⟨"MissingLampsModel", "isCounted", "(Z)Z"⟩, 73) := ⟨⟨by decide +kernel, by decide +kernel⟩, List.mem_of_getElem? (i := 1236) (by decide +kernel), List.mem_of_getElem? (i := 1543) (by decide +kernel), List.mem_of_getElem? (i := 1544) (by decide +kernel)⟩
theorem lw_p69 : lw_okq (⟨"MissingLampsModel", "walling", "()V"⟩, 73) := ⟨⟨by decide +kernel, by decide +kernel⟩, List.mem_of_getElem? (i := 1236) (by decide +kernel), List.mem_of_getElem? (i := 1549) (by decide +kernel), List.mem_of_getElem? (i := 1550) (by decide +kernel)⟩
theorem lw_p70 : lw_okq (⟨"MissingLampsModel", "cellTold", "(Z)I"⟩, 73) := ⟨⟨by decide +kernel, by decide +kernel⟩, List.mem_of_getElem? (i := 1236) (by decide +kernel), List.mem_of_getElem? (i := 1553) (by decide +kernel), List.mem_of_getElem? (i := 1554) (by decide +kernel)⟩
theorem lw_p71 : lw_okq (⟨"MissingLampsModel", "isInTheWay", "(I)Z"⟩, 73) := ⟨⟨by decide +kernel, by decide +kernel⟩, List.mem_of_getElem? (i := 1236) (by decide +kernel), List.mem_of_getElem? (i := 1557) (by decide +kernel), List.mem_of_getElem? (i := 1558) (by decide +kernel)⟩
theorem lw_p72 : lw_okq (⟨"MissingLampsModel", "lacking", "()V"⟩, 73) := ⟨⟨by decide +kernel, by decide +kernel⟩, List.mem_of_getElem? (i := 1236) (by decide +kernel), List.mem_of_getElem? (i := 1562) (by decide +kernel), List.mem_of_getElem? (i := 1563) (by decide +kernel)⟩
theorem lw_p73 : lw_okq (⟨"MissingLampsModel", "fresh", "()J"⟩, 73) := ⟨⟨by decide +kernel, by decide +kernel⟩, List.mem_of_getElem? (i := 1236) (by decide +kernel), List.mem_of_getElem? (i := 1566) (by decide +kernel), List.mem_of_getElem? (i := 1567) (by decide +kernel)⟩
theorem lw_p74 : lw_okq (⟨"MissingLampsModel", "isOwn", "(J)Z"⟩, 73) := ⟨⟨by decide +kernel, by decide +kernel⟩, List.mem_of_getElem? (i := 1236) (by decide +kernel), List.mem_of_getElem? (i := 1570) (by decide +kernel), List.mem_of_getElem? (i := 1571) (by decide +kernel)⟩
theorem lw_p75 : lw_okq (⟨"MissingLampsModel", "isNamed", "(J)Z"⟩, 73) := ⟨⟨by decide +kernel, by decide +kernel⟩, List.mem_of_getElem? (i := 1236) (by decide +kernel), List.mem_of_getElem? (i := 1594) (by decide +kernel), List.mem_of_getElem? (i := 1595) (by decide +kernel)⟩
theorem lw_p76 : lw_okq (⟨"MissingLampsModel", "thingNamed", "(J)I"⟩, 73) := ⟨⟨by decide +kernel, by decide +kernel⟩, List.mem_of_getElem? (i := 1236) (by decide +kernel), List.mem_of_getElem? (i := 1598) (by decide +kernel), List.mem_of_getElem? (i := 1599) (by decide +kernel)⟩
theorem lw_p77 : lw_okq (⟨"MissingLampsModel", "having", "()V"⟩, 73) := ⟨⟨by decide +kernel, by decide +kernel⟩, List.mem_of_getElem? (i := 1236) (by decide +kernel), List.mem_of_getElem? (i := 1602) (by decide +kernel), List.mem_of_getElem? (i := 1603) (by decide +kernel)⟩
theorem lw_p78 : lw_okq (⟨"MissingLampsModel", "folking", "()V"⟩, 73) := ⟨⟨by decide +kernel, by decide +kernel⟩, List.mem_of_getElem? (i := 1236) (by decide +kernel), List.mem_of_getElem? (i := 1609) (by decide +kernel), List.mem_of_getElem? (i := 1610) (by decide +kernel)⟩
theorem lw_p79 : lw_okq (⟨"MissingLampsModel", "reading", "(I)V"⟩, 73) := ⟨⟨by decide +kernel, by decide +kernel⟩, List.mem_of_getElem? (i := 1236) (by decide +kernel), List.mem_of_getElem? (i := 1613) (by decide +kernel), List.mem_of_getElem? (i := 1614) (by decide +kernel)⟩
def lw_privs_5 : List (MethodName × Nat) := [(⟨"MissingLampsModel", "isSign", "(I)Z"⟩, 73), (⟨"MissingLampsModel", "must", "(I)V"⟩, 73), (⟨"MissingLampsModel", "statement", "()V"⟩, 73), (⟨"MissingLampsModel", "telling", "(II)I"⟩, 73), (⟨"MissingLampsModel", "isCounted", "(Z)Z"⟩, 73), (⟨"MissingLampsModel", "walling", "()V"⟩, 73), (⟨"MissingLampsModel", "cellTold", "(Z)I"⟩, 73), (⟨"MissingLampsModel", "isInTheWay", "(I)Z"⟩, 73), (⟨"MissingLampsModel", "lacking", "()V"⟩, 73), (⟨"MissingLampsModel", "fresh", "()J"⟩, 73), (⟨"MissingLampsModel", "isOwn", "(J)Z"⟩, 73), (⟨"MissingLampsModel", "isNamed", "(J)Z"⟩, 73), (⟨"MissingLampsModel", "thingNamed", "(J)I"⟩, 73), (⟨"MissingLampsModel", "having", "()V"⟩, 73), (⟨"MissingLampsModel", "folking", "()V"⟩, 73), (⟨"MissingLampsModel", "reading", "(I)V"⟩, 73)]
theorem lw_r5 : ∀ q ∈ lw_privs_5, lw_okq q := List.forall_mem_cons.mpr ⟨lw_p64, List.forall_mem_cons.mpr ⟨lw_p65, List.forall_mem_cons.mpr ⟨lw_p66, List.forall_mem_cons.mpr ⟨lw_p67, List.forall_mem_cons.mpr ⟨lw_p68, List.forall_mem_cons.mpr ⟨lw_p69, List.forall_mem_cons.mpr ⟨lw_p70, List.forall_mem_cons.mpr ⟨lw_p71, List.forall_mem_cons.mpr ⟨lw_p72, List.forall_mem_cons.mpr ⟨lw_p73, List.forall_mem_cons.mpr ⟨lw_p74, List.forall_mem_cons.mpr ⟨lw_p75, List.forall_mem_cons.mpr ⟨lw_p76, List.forall_mem_cons.mpr ⟨lw_p77, List.forall_mem_cons.mpr ⟨lw_p78, List.forall_mem_cons.mpr ⟨lw_p79, fun _ h => absurd h List.not_mem_nil⟩⟩⟩⟩⟩⟩⟩⟩⟩⟩⟩⟩⟩⟩⟩⟩
theorem lw_p80 : lw_okq (⟨"MissingLampsModel", "reads", "(Z)V"⟩, 73) := ⟨⟨by decide +kernel, by decide +kernel⟩, List.mem_of_getElem? (i := 1236) (by decide +kernel), List.mem_of_getElem? (i := 1617) (by decide +kernel), List.mem_of_getElem? (i := 1618) (by decide +kernel)⟩
theorem lw_p81 : lw_okq (⟨"MissingLampsModel", "pushes", "(I)V"⟩, 73) := ⟨⟨by decide +kernel, by decide +kernel⟩, List.mem_of_getElem? (i := 1236) (by decide +kernel), List.mem_of_getElem? (i := 1621) (by decide +kernel), List.mem_of_getElem? (i := 1622) (by decide +kernel)⟩
theorem lw_p82 : lw_okq (⟨"MissingLampsModel", "operand", "()Z"⟩, 73) := ⟨⟨by decide +kernel, by decide +kernel⟩, List.mem_of_getElem? (i := 1236) (by decide +kernel), List.mem_of_getElem? (i := 1625) (by decide +kernel), List.mem_of_getElem? (i := 1626) (by decide +kernel)⟩
theorem lw_p83 : lw_okq (⟨"MissingLampsModel", "holdsBack", "(I)V"⟩, 73) := ⟨⟨by decide +kernel, by decide +kernel⟩, List.mem_of_getElem? (i := 1236) (by decide +kernel), List.mem_of_getElem? (i := 1632) (by decide +kernel), List.mem_of_getElem? (i := 1633) (by decide +kernel)⟩
theorem lw_p84 : lw_okq (⟨"MissingLampsModel", "opens", "(I)V"⟩, 73) := ⟨⟨by decide +kernel, by decide +kernel⟩, List.mem_of_getElem? (i := 1236) (by decide +kernel), List.mem_of_getElem? (i := 1636) (by decide +kernel), List.mem_of_getElem? (i := 1637) (by decide +kernel)⟩
theorem lw_p85 : lw_okq (⟨"MissingLampsModel", "add", "(II)V"⟩, 73) := ⟨⟨by decide +kernel, by decide +kernel⟩, List.mem_of_getElem? (i := 1236) (by decide +kernel), List.mem_of_getElem? (i := 1640) (by decide +kernel), List.mem_of_getElem? (i := 1641) (by decide +kernel)⟩
theorem lw_p86 : lw_okq (⟨"MissingLampsModel", "goesOn", "()Z"⟩, 73) := ⟨⟨by decide +kernel, by decide +kernel⟩, List.mem_of_getElem? (i := 1236) (by decide +kernel), List.mem_of_getElem? (i := 1644) (by decide +kernel), List.mem_of_getElem? (i := 1645) (by decide +kernel)⟩
theorem lw_p87 : lw_okq (⟨"MissingLampsModel", "joins", "(I)V"⟩, 73) := ⟨⟨by decide +kernel, by decide +kernel⟩, List.mem_of_getElem? (i := 1236) (by decide +kernel), List.mem_of_getElem? (i := 1648) (by decide +kernel), List.mem_of_getElem? (i := 1649) (by decide +kernel)⟩
theorem lw_p88 : lw_okq (⟨"MissingLampsModel", "begin", "()V"⟩, 73) := ⟨⟨by decide +kernel, by decide +kernel⟩, List.mem_of_getElem? (i := 1236) (by decide +kernel), List.mem_of_getElem? (i := 1655) (by decide +kernel), List.mem_of_getElem? (i := 1656) (by decide +kernel)⟩
theorem lw_p89 : lw_okq (⟨"MissingLampsModel", "slot", "(I)I"⟩, 73) := ⟨⟨by decide +kernel, by decide +kernel⟩, List.mem_of_getElem? (i := 1236) (by decide +kernel), List.mem_of_getElem? (i := 1671) (by decide +kernel), List.mem_of_getElem? (i := 1672) (by decide +kernel)⟩
theorem lw_p90 : lw_okq (⟨"MissingLampsModel", "copies", "(II)V"⟩, 73) := ⟨⟨by decide +kernel, by decide +kernel⟩, List.mem_of_getElem? (i := 1236) (by decide +kernel), List.mem_of_getElem? (i := 1675) (by decide +kernel), List.mem_of_getElem? (i := 1676) (by decide +kernel)⟩
theorem lw_p91 : lw_okq (⟨"MissingLampsModel", "isCellOf", "(I)Z"⟩, 73) := ⟨⟨by decide +kernel, by decide +kernel⟩, List.mem_of_getElem? (i := 1236) (by decide +kernel), List.mem_of_getElem? (i := 1683) (by decide +kernel), List.mem_of_getElem? (i := 1684) (by decide +kernel)⟩
theorem lw_p92 : lw_okq (⟨"MissingLampsModel", "isCell", "(II)Z"⟩, 73) := ⟨⟨by decide +kernel, by decide +kernel⟩, List.mem_of_getElem? (i := 1236) (by decide +kernel), List.mem_of_getElem? (i := 1687) (by decide +kernel), List.mem_of_getElem? (i := 1688) (by decide +kernel)⟩
theorem lw_p93 : lw_okq (⟨"MissingLampsModel", "isWall", "(I)Z"⟩, 73) := ⟨⟨by decide +kernel, by decide +kernel⟩, List.mem_of_getElem? (i := 1236) (by decide +kernel), List.mem_of_getElem? (i := 1691) (by decide +kernel), List.mem_of_getElem? (i := 1692) (by decide +kernel)⟩
theorem lw_p94 : lw_okq (⟨"MissingLampsModel", "lights", "(II)V"⟩, 73) := ⟨⟨by decide +kernel, by decide +kernel⟩, List.mem_of_getElem? (i := 1236) (by decide +kernel), List.mem_of_getElem? (i := 1698) (by decide +kernel), List.mem_of_getElem? (i := 1699) (by decide +kernel)⟩
theorem lw_p95 : lw_okq (⟨"MissingLampsModel", "glowOf", "(II)I"⟩, 73) := ⟨⟨by decide +kernel, by decide +kernel⟩, List.mem_of_getElem? (i := 1236) (by decide +kernel), List.mem_of_getElem? (i := 1702) (by decide +kernel), List.mem_of_getElem? (i := 1703) (by decide +kernel)⟩
def lw_privs_6 : List (MethodName × Nat) := [(⟨"MissingLampsModel", "reads", "(Z)V"⟩, 73), (⟨"MissingLampsModel", "pushes", "(I)V"⟩, 73), (⟨"MissingLampsModel", "operand", "()Z"⟩, 73), (⟨"MissingLampsModel", "holdsBack", "(I)V"⟩, 73), (⟨"MissingLampsModel", "opens", "(I)V"⟩, 73), (⟨"MissingLampsModel", "add", "(II)V"⟩, 73), (⟨"MissingLampsModel", "goesOn", "()Z"⟩, 73), (⟨"MissingLampsModel", "joins", "(I)V"⟩, 73), (⟨"MissingLampsModel", "begin", "()V"⟩, 73), (⟨"MissingLampsModel", "slot", "(I)I"⟩, 73), (⟨"MissingLampsModel", "copies", "(II)V"⟩, 73), (⟨"MissingLampsModel", "isCellOf", "(I)Z"⟩, 73), (⟨"MissingLampsModel", "isCell", "(II)Z"⟩, 73), (⟨"MissingLampsModel", "isWall", "(I)Z"⟩, 73), (⟨"MissingLampsModel", "lights", "(II)V"⟩, 73), (⟨"MissingLampsModel", "glowOf", "(II)I"⟩, 73)]
theorem lw_r6 : ∀ q ∈ lw_privs_6, lw_okq q := List.forall_mem_cons.mpr ⟨lw_p80, List.forall_mem_cons.mpr ⟨lw_p81, List.forall_mem_cons.mpr ⟨lw_p82, List.forall_mem_cons.mpr ⟨lw_p83, List.forall_mem_cons.mpr ⟨lw_p84, List.forall_mem_cons.mpr ⟨lw_p85, List.forall_mem_cons.mpr ⟨lw_p86, List.forall_mem_cons.mpr ⟨lw_p87, List.forall_mem_cons.mpr ⟨lw_p88, List.forall_mem_cons.mpr ⟨lw_p89, List.forall_mem_cons.mpr ⟨lw_p90, List.forall_mem_cons.mpr ⟨lw_p91, List.forall_mem_cons.mpr ⟨lw_p92, List.forall_mem_cons.mpr ⟨lw_p93, List.forall_mem_cons.mpr ⟨lw_p94, List.forall_mem_cons.mpr ⟨lw_p95, fun _ h => absurd h List.not_mem_nil⟩⟩⟩⟩⟩⟩⟩⟩⟩⟩⟩⟩⟩⟩⟩⟩
theorem lw_p96 : lw_okq (⟨"MissingLampsModel", "isTold", "(I)Z"⟩, 73) := ⟨⟨by decide +kernel, by decide +kernel⟩, List.mem_of_getElem? (i := 1236) (by decide +kernel), List.mem_of_getElem? (i := 1706) (by decide +kernel), List.mem_of_getElem? (i := 1707) (by decide +kernel)⟩
theorem lw_p97 : lw_okq (⟨"MissingLampsModel", "lays", "(II)V"⟩, 73) := ⟨⟨by decide +kernel, by decide +kernel⟩, List.mem_of_getElem? (i := 1236) (by decide +kernel), List.mem_of_getElem? (i := 1710) (by decide +kernel), List.mem_of_getElem? (i := 1711) (by decide +kernel)⟩
theorem lw_p98 : lw_okq (⟨"MissingLampsModel", "reckons", "(I)J"⟩, 73) := ⟨⟨by decide +kernel, by decide +kernel⟩, List.mem_of_getElem? (i := 1236) (by decide +kernel), List.mem_of_getElem? (i := 1714) (by decide +kernel), List.mem_of_getElem? (i := 1715) (by decide +kernel)⟩
theorem lw_p99 : lw_okq (⟨"MissingLampsModel", "homes", "(I)I"⟩, 73) := ⟨⟨by decide +kernel, by decide +kernel⟩, List.mem_of_getElem? (i := 1236) (by decide +kernel), List.mem_of_getElem? (i := 1733) (by decide +kernel), List.mem_of_getElem? (i := 1734) (by decide +kernel)⟩
theorem lw_p100 : lw_okq (⟨"MissingLampsModel", "isHome", "(II)Z"⟩, 73) := ⟨⟨by decide +kernel, by decide +kernel⟩, List.mem_of_getElem? (i := 1236) (by decide +kernel), List.mem_of_getElem? (i := 1737) (by decide +kernel), List.mem_of_getElem? (i := 1738) (by decide +kernel)⟩
theorem lw_p101 : lw_okq (⟨"MissingLampsModel", "isThing", "(I)Z"⟩, 73) := ⟨⟨by decide +kernel, by decide +kernel⟩, List.mem_of_getElem? (i := 1236) (by decide +kernel), List.mem_of_getElem? (i := 1745) (by decide +kernel), List.mem_of_getElem? (i := 1746) (by decide +kernel)⟩
theorem lw_p102 : lw_okq (⟨"MissingLampsModel", "isFolk", "(I)Z"⟩, 73) := ⟨⟨by decide +kernel, by decide +kernel⟩, List.mem_of_getElem? (i := 1236) (by decide +kernel), List.mem_of_getElem? (i := 1749) (by decide +kernel), List.mem_of_getElem? (i := 1750) (by decide +kernel)⟩
theorem lw_p103 : lw_okq (⟨"MissingLampsModel", "leads", "(IZ)V"⟩, 73) := ⟨⟨by decide +kernel, by decide +kernel⟩, List.mem_of_getElem? (i := 1236) (by decide +kernel), List.mem_of_getElem? (i := 1769) (by decide +kernel), List.mem_of_getElem? (i := 1770) (by decide +kernel)⟩
theorem lw_p104 : lw_okq (⟨"MissingLampsModel", "besideOf", "(II)I"⟩, 73) := ⟨⟨by decide +kernel, by decide +kernel⟩, List.mem_of_getElem? (i := 1236) (by decide +kernel), List.mem_of_getElem? (i := 1774) (by decide +kernel), List.mem_of_getElem? (i := 1775) (by decide +kernel)⟩
theorem lw_p105 : lw_okq (⟨"MissingLampsModel", "isAhead", "(III)Z"⟩, 73) := ⟨⟨by decide +kernel, by decide +kernel⟩, List.mem_of_getElem? (i := 1236) (by decide +kernel), List.mem_of_getElem? (i := 1782) (by decide +kernel), List.mem_of_getElem? (i := 1783) (by decide +kernel)⟩
theorem lw_p106 : lw_okq (⟨"MissingLampsModel", "runsOn", "(I)V"⟩, 73) := ⟨⟨by decide +kernel, by decide +kernel⟩, List.mem_of_getElem? (i := 1236) (by decide +kernel), List.mem_of_getElem? (i := 1786) (by decide +kernel), List.mem_of_getElem? (i := 1787) (by decide +kernel)⟩
theorem lw_p107 : lw_okq (⟨"MissingLampsModel", "ticks", "(II)I"⟩, 73) := ⟨⟨by decide +kernel, by decide +kernel⟩, List.mem_of_getElem? (i := 1236) (by decide +kernel), List.mem_of_getElem? (i := 1790) (by decide +kernel), List.mem_of_getElem? (i := 1791) (by decide +kernel)⟩
theorem lw_p108 : lw_okq (⟨"MissingLampsModel", "walks", "(II)V"⟩, 73) := ⟨⟨by decide +kernel, by decide +kernel⟩, List.mem_of_getElem? (i := 1236) (by decide +kernel), List.mem_of_getElem? (i := 1794) (by decide +kernel), List.mem_of_getElem? (i := 1795) (by decide +kernel)⟩
theorem lw_p109 : lw_okq (⟨"MissingLampsModel", "isTurned", "(II)Z"⟩, 73) := ⟨⟨by decide +kernel, by decide +kernel⟩, List.mem_of_getElem? (i := 1236) (by decide +kernel), List.mem_of_getElem? (i := 1798) (by decide +kernel), List.mem_of_getElem? (i := 1799) (by decide +kernel)⟩
theorem lw_p110 : lw_okq (⟨"MissingLampsModel", "turnsOver", "(II)V"⟩, 73) := ⟨⟨by decide +kernel, by decide +kernel⟩, List.mem_of_getElem? (i := 1236) (by decide +kernel), List.mem_of_getElem? (i := 1802) (by decide +kernel), List.mem_of_getElem? (i := 1803) (by decide +kernel)⟩
theorem lw_p111 : lw_okq (⟨"MissingLampsModel", "writesDown", "(III)V"⟩, 73) := ⟨⟨by decide +kernel, by decide +kernel⟩, List.mem_of_getElem? (i := 1236) (by decide +kernel), List.mem_of_getElem? (i := 1806) (by decide +kernel), List.mem_of_getElem? (i := 1807) (by decide +kernel)⟩
def lw_privs_7 : List (MethodName × Nat) := [(⟨"MissingLampsModel", "isTold", "(I)Z"⟩, 73), (⟨"MissingLampsModel", "lays", "(II)V"⟩, 73), (⟨"MissingLampsModel", "reckons", "(I)J"⟩, 73), (⟨"MissingLampsModel", "homes", "(I)I"⟩, 73), (⟨"MissingLampsModel", "isHome", "(II)Z"⟩, 73), (⟨"MissingLampsModel", "isThing", "(I)Z"⟩, 73), (⟨"MissingLampsModel", "isFolk", "(I)Z"⟩, 73), (⟨"MissingLampsModel", "leads", "(IZ)V"⟩, 73), (⟨"MissingLampsModel", "besideOf", "(II)I"⟩, 73), (⟨"MissingLampsModel", "isAhead", "(III)Z"⟩, 73), (⟨"MissingLampsModel", "runsOn", "(I)V"⟩, 73), (⟨"MissingLampsModel", "ticks", "(II)I"⟩, 73), (⟨"MissingLampsModel", "walks", "(II)V"⟩, 73), (⟨"MissingLampsModel", "isTurned", "(II)Z"⟩, 73), (⟨"MissingLampsModel", "turnsOver", "(II)V"⟩, 73), (⟨"MissingLampsModel", "writesDown", "(III)V"⟩, 73)]
theorem lw_r7 : ∀ q ∈ lw_privs_7, lw_okq q := List.forall_mem_cons.mpr ⟨lw_p96, List.forall_mem_cons.mpr ⟨lw_p97, List.forall_mem_cons.mpr ⟨lw_p98, List.forall_mem_cons.mpr ⟨lw_p99, List.forall_mem_cons.mpr ⟨lw_p100, List.forall_mem_cons.mpr ⟨lw_p101, List.forall_mem_cons.mpr ⟨lw_p102, List.forall_mem_cons.mpr ⟨lw_p103, List.forall_mem_cons.mpr ⟨lw_p104, List.forall_mem_cons.mpr ⟨lw_p105, List.forall_mem_cons.mpr ⟨lw_p106, List.forall_mem_cons.mpr ⟨lw_p107, List.forall_mem_cons.mpr ⟨lw_p108, List.forall_mem_cons.mpr ⟨lw_p109, List.forall_mem_cons.mpr ⟨lw_p110, List.forall_mem_cons.mpr ⟨lw_p111, fun _ h => absurd h List.not_mem_nil⟩⟩⟩⟩⟩⟩⟩⟩⟩⟩⟩⟩⟩⟩⟩⟩
theorem lw_p112 : lw_okq (⟨"MissingLampsModel", "turnsAll", "(I)V"⟩, 73) := ⟨⟨by decide +kernel, by decide +kernel⟩, List.mem_of_getElem? (i := 1236) (by decide +kernel), List.mem_of_getElem? (i := 1822) (by decide +kernel), List.mem_of_getElem? (i := 1823) (by decide +kernel)⟩
theorem lw_p113 : lw_okq (⟨"MissingLampsModel", "sends", "()V"⟩, 73) := ⟨⟨by decide +kernel, by decide +kernel⟩, List.mem_of_getElem? (i := 1236) (by decide +kernel), List.mem_of_getElem? (i := 1838) (by decide +kernel), List.mem_of_getElem? (i := 1839) (by decide +kernel)⟩
theorem lw_p114 : lw_okq (⟨"MissingLampsModel", "costOf", "(III)I"⟩, 73) := ⟨⟨by decide +kernel, by decide +kernel⟩, List.mem_of_getElem? (i := 1236) (by decide +kernel), List.mem_of_getElem? (i := 1845) (by decide +kernel), List.mem_of_getElem? (i := 1846) (by decide +kernel)⟩
theorem lw_p115 : lw_okq (⟨"MissingLampsModel", "hueBits", "(I)I"⟩, 73) := ⟨⟨by decide +kernel, by decide +kernel⟩, List.mem_of_getElem? (i := 1236) (by decide +kernel), List.mem_of_getElem? (i := 1861) (by decide +kernel), List.mem_of_getElem? (i := 1862) (by decide +kernel)⟩
theorem lw_p116 : lw_okq (⟨"MissingLampsModel", "mostBy", "(III)I"⟩, 73) := ⟨⟨by decide +kernel, by decide +kernel⟩, List.mem_of_getElem? (i := 1236) (by decide +kernel), List.mem_of_getElem? (i := 1869) (by decide +kernel), List.mem_of_getElem? (i := 1870) (by decide +kernel)⟩
theorem lw_p117 : lw_okq (⟨"MissingLampsModel", "keeps", "()V"⟩, 73) := ⟨⟨by decide +kernel, by decide +kernel⟩, List.mem_of_getElem? (i := 1236) (by decide +kernel), List.mem_of_getElem? (i := 1877) (by decide +kernel), List.mem_of_getElem? (i := 1878) (by decide +kernel)⟩
theorem lw_p118 : lw_okq (⟨"MissingLampsModel", "draw", "(I)I"⟩, 73) := ⟨⟨by decide +kernel, by decide +kernel⟩, List.mem_of_getElem? (i := 1236) (by decide +kernel), List.mem_of_getElem? (i := 1885) (by decide +kernel), List.mem_of_getElem? (i := 1886) (by decide +kernel)⟩
theorem lw_p119 : lw_okq (⟨"MissingLampsModel", "turnsNow", "(IZ)Z"⟩, 73) := ⟨⟨by decide +kernel, by decide +kernel⟩, List.mem_of_getElem? (i := 1236) (by decide +kernel), List.mem_of_getElem? (i := 1897) (by decide +kernel), List.mem_of_getElem? (i := 1898) (by decide +kernel)⟩
theorem lw_p120 : lw_okq (⟨"MissingLampsModel", "writes", "(I)V"⟩, 73) := ⟨⟨by decide +kernel, by decide +kernel⟩, List.mem_of_getElem? (i := 1236) (by decide +kernel), List.mem_of_getElem? (i := 1921) (by decide +kernel), List.mem_of_getElem? (i := 1922) (by decide +kernel)⟩
theorem lw_p121 : lw_okq (⟨"MissingLampsModel", "comesOn", "(I)Z"⟩, 73) := ⟨⟨by decide +kernel, by decide +kernel⟩, List.mem_of_getElem? (i := 1236) (by decide +kernel), List.mem_of_getElem? (i := 1933) (by decide +kernel), List.mem_of_getElem? (i := 1934) (by decide +kernel)⟩
theorem lw_p122 : lw_okq (⟨"MissingLampsModel", "folkOn", "(II)Z"⟩, 73) := ⟨⟨by decide +kernel, by decide +kernel⟩, List.mem_of_getElem? (i := 1236) (by decide +kernel), List.mem_of_getElem? (i := 1937) (by decide +kernel), List.mem_of_getElem? (i := 1938) (by decide +kernel)⟩
def lw_privs_8 : List (MethodName × Nat) := [(⟨"MissingLampsModel", "turnsAll", "(I)V"⟩, 73), (⟨"MissingLampsModel", "sends", "()V"⟩, 73), (⟨"MissingLampsModel", "costOf", "(III)I"⟩, 73), (⟨"MissingLampsModel", "hueBits", "(I)I"⟩, 73), (⟨"MissingLampsModel", "mostBy", "(III)I"⟩, 73), (⟨"MissingLampsModel", "keeps", "()V"⟩, 73), (⟨"MissingLampsModel", "draw", "(I)I"⟩, 73), (⟨"MissingLampsModel", "turnsNow", "(IZ)Z"⟩, 73), (⟨"MissingLampsModel", "writes", "(I)V"⟩, 73), (⟨"MissingLampsModel", "comesOn", "(I)Z"⟩, 73), (⟨"MissingLampsModel", "folkOn", "(II)Z"⟩, 73)]
theorem lw_r8 : ∀ q ∈ lw_privs_8, lw_okq q := List.forall_mem_cons.mpr ⟨lw_p112, List.forall_mem_cons.mpr ⟨lw_p113, List.forall_mem_cons.mpr ⟨lw_p114, List.forall_mem_cons.mpr ⟨lw_p115, List.forall_mem_cons.mpr ⟨lw_p116, List.forall_mem_cons.mpr ⟨lw_p117, List.forall_mem_cons.mpr ⟨lw_p118, List.forall_mem_cons.mpr ⟨lw_p119, List.forall_mem_cons.mpr ⟨lw_p120, List.forall_mem_cons.mpr ⟨lw_p121, List.forall_mem_cons.mpr ⟨lw_p122, fun _ h => absurd h List.not_mem_nil⟩⟩⟩⟩⟩⟩⟩⟩⟩⟩⟩
def lw_privs : List (MethodName × Nat) := lw_privs_1 ++ (lw_privs_2 ++ (lw_privs_3 ++ (lw_privs_4 ++ (lw_privs_5 ++ (lw_privs_6 ++ (lw_privs_7 ++ (lw_privs_8)))))))
def lw_tbl : List Cond := k2_sels lw_privs ++ tables_1
theorem lw_privs_ok : ∀ q ∈ lw_privs, lw_okq q := by
  show ∀ q ∈ lw_privs_1 ++ (lw_privs_2 ++ (lw_privs_3 ++ (lw_privs_4 ++ (lw_privs_5 ++ (lw_privs_6 ++ (lw_privs_7 ++ (lw_privs_8))))))), lw_okq q
  exact List.forall_mem_append.mpr ⟨lw_r1, List.forall_mem_append.mpr ⟨lw_r2, List.forall_mem_append.mpr ⟨lw_r3, List.forall_mem_append.mpr ⟨lw_r4, List.forall_mem_append.mpr ⟨lw_r5, List.forall_mem_append.mpr ⟨lw_r6, List.forall_mem_append.mpr ⟨lw_r7, lw_r8⟩⟩⟩⟩⟩⟩⟩
end
section
def RX0 : String := "MissingLamps$Harbour"
def TX0 : u_T := fun k => match k with
  | 0 => ("MissingLamps$Harbour", "plan", "LMissingLamps$Quay;", false)
  | 1 => ("MissingLamps$Harbour", "reckoner", "LMissingLamps$Reckoner;", true)
  | 2 => ("MissingLamps$Harbour", "rings", "[J", true)
  | 3 => ("MissingLamps$Harbour", "foundThings", "I", false)
  | _ => ("MissingLamps$Harbour", "lostThings", "I", false)
def tyX0 : Nat → FieldType := fun k => match k with
  | 0 => .object "MissingLamps$Quay"
  | 1 => .object "MissingLamps$Reckoner"
  | 2 => .array .long
  | 3 => .int
  | _ => .int
abbrev wsX00 : List Cond := u_ws RX0 TX0 5
theorem nmX0 : ∀ a, a < 5 → ∀ b, b < 5 → a ≠ b → (TX0 a).2.1 ≠ (TX0 b).2.1 := by decide +kernel
theorem tyX0_ok : ∀ k, k < 5 → parseFieldDescriptor (TX0 k).2.2.1 = some (tyX0 k) := by decide +kernel
abbrev cX0_init : ByteArray := prog_2_method_1_code
def yX0_init : MethodName := ⟨RX0, "<init>", "(LMissingLamps$Quay;)V"⟩
abbrev cX0_moveTo : ByteArray := prog_2_method_2_code
def yX0_moveTo : MethodName := ⟨RX0, "moveTo", "(LMissingLamps$Quay;)V"⟩
abbrev cX0_pass : ByteArray := prog_2_method_3_code
def yX0_pass : MethodName := ⟨RX0, "pass", "(LMissingLamps$State;II)V"⟩
abbrev cX0_lit : ByteArray := prog_2_method_4_code
def yX0_lit : MethodName := ⟨RX0, "lit", "(LMissingLamps$State;I)J"⟩
abbrev cX0_glow : ByteArray := prog_2_method_5_code
def yX0_glow : MethodName := ⟨RX0, "glow", "(LMissingLamps$State;I)I"⟩
abbrev cX0_light : ByteArray := prog_2_method_6_code
def yX0_light : MethodName := ⟨RX0, "light", "(II)J"⟩
abbrev cX0_nextTo : ByteArray := prog_2_method_7_code
def yX0_nextTo : MethodName := ⟨RX0, "nextTo", "(J)J"⟩
abbrev cX0_countLanterns : ByteArray := prog_2_method_8_code
def yX0_countLanterns : MethodName := ⟨RX0, "countLanterns", "(LMissingLamps$State;J)I"⟩
abbrev cX0_road : ByteArray := prog_2_method_9_code
def yX0_road : MethodName := ⟨RX0, "road", "(IIJ)I"⟩
abbrev cX0_walked : ByteArray := prog_2_method_10_code
def yX0_walked : MethodName := ⟨RX0, "walked", "(IIJ)I"⟩
abbrev cX0_stepped : ByteArray := prog_2_method_11_code
def yX0_stepped : MethodName := ⟨RX0, "stepped", "(IJ)I"⟩
abbrev cX0_settle : ByteArray := prog_2_method_12_code
def yX0_settle : MethodName := ⟨RX0, "settle", "(LMissingLamps$State;)V"⟩
abbrev cX0_isFound : ByteArray := prog_2_method_13_code
def yX0_isFound : MethodName := ⟨RX0, "isFound", "(LMissingLamps$State;I)Z"⟩
abbrev cX0_isLost : ByteArray := prog_2_method_14_code
def yX0_isLost : MethodName := ⟨RX0, "isLost", "(LMissingLamps$State;I)Z"⟩
abbrev cX0_setOut : ByteArray := prog_2_method_15_code
def yX0_setOut : MethodName := ⟨RX0, "setOut", "(LMissingLamps$State;I)V"⟩
abbrev cX0_hueOf : ByteArray := prog_2_method_16_code
def yX0_hueOf : MethodName := ⟨RX0, "hueOf", "(LMissingLamps$State;I)I"⟩
abbrev cX0_near : ByteArray := prog_2_method_17_code
def yX0_near : MethodName := ⟨RX0, "near", "(LMissingLamps$State;I)I"⟩
abbrev cX0_isAtHome : ByteArray := prog_2_method_18_code
def yX0_isAtHome : MethodName := ⟨RX0, "isAtHome", "(LMissingLamps$State;I)Z"⟩
abbrev cX0_countAtHome : ByteArray := prog_2_method_19_code
def yX0_countAtHome : MethodName := ⟨RX0, "countAtHome", "(LMissingLamps$State;)I"⟩
def RX1 : String := "MissingLamps$KeptRows"
def TX1 : u_T := fun k => match k with
  | 0 => ("MissingLamps$KeptRows", "nights", "[I", true)
  | 1 => ("MissingLamps$KeptRows", "things", "[I", true)
  | 2 => ("MissingLamps$KeptRows", "founds", "[I", true)
  | _ => ("MissingLamps$KeptRows", "size", "I", false)
def tyX1 : Nat → FieldType := fun k => match k with
  | 0 => .array .int
  | 1 => .array .int
  | 2 => .array .int
  | _ => .int
abbrev wsX10 : List Cond := u_ws RX1 TX1 4
theorem nmX1 : ∀ a, a < 4 → ∀ b, b < 4 → a ≠ b → (TX1 a).2.1 ≠ (TX1 b).2.1 := by decide +kernel
theorem tyX1_ok : ∀ k, k < 4 → parseFieldDescriptor (TX1 k).2.2.1 = some (tyX1 k) := by decide +kernel
abbrev cX1_init : ByteArray := prog_3_method_1_code
def yX1_init : MethodName := ⟨RX1, "<init>", "()V"⟩
abbrev cX1_add : ByteArray := prog_3_method_2_code
def yX1_add : MethodName := ⟨RX1, "add", "(III)V"⟩
abbrev cX1_copyFrom : ByteArray := prog_3_method_3_code
def yX1_copyFrom : MethodName := ⟨RX1, "copyFrom", "(LMissingLamps$KeptRows;)V"⟩
def RX2 : String := "MissingLamps$Past"
def TX2 : u_T := fun k => match k with
  | 0 => ("MissingLamps$Past", "states", "[LMissingLamps$State;", true)
  | 1 => ("MissingLamps$Past", "rows", "[LMissingLamps$KeptRows;", true)
  | 2 => ("MissingLamps$Past", "next", "I", false)
  | _ => ("MissingLamps$Past", "size", "I", false)
def tyX2 : Nat → FieldType := fun k => match k with
  | 0 => .array (.object "MissingLamps$State")
  | 1 => .array (.object "MissingLamps$KeptRows")
  | 2 => .int
  | _ => .int
abbrev wsX20 : List Cond := u_ws RX2 TX2 4
theorem nmX2 : ∀ a, a < 4 → ∀ b, b < 4 → a ≠ b → (TX2 a).2.1 ≠ (TX2 b).2.1 := by decide +kernel
theorem tyX2_ok : ∀ k, k < 4 → parseFieldDescriptor (TX2 k).2.2.1 = some (tyX2 k) := by decide +kernel
abbrev cX2_init : ByteArray := prog_4_method_1_code
def yX2_init : MethodName := ⟨RX2, "<init>", "()V"⟩
abbrev cX2_push : ByteArray := prog_4_method_2_code
def yX2_push : MethodName := ⟨RX2, "push", "(LMissingLamps$State;LMissingLamps$KeptRows;)V"⟩
abbrev cX2_pop : ByteArray := prog_4_method_3_code
def yX2_pop : MethodName := ⟨RX2, "pop", "(LMissingLamps$State;LMissingLamps$KeptRows;)V"⟩
def RX3 : String := "MissingLamps$Planner"
def TX3 : u_T := fun k => match k with
  | 0 => ("MissingLamps$Planner", "harbour", "LMissingLamps$Harbour;", true)
  | 1 => ("MissingLamps$Planner", "trials", "[LMissingLamps$State;", true)
  | 2 => ("MissingLamps$Planner", "lights", "[J", true)
  | 3 => ("MissingLamps$Planner", "steps", "[I", true)
  | 4 => ("MissingLamps$Planner", "worths", "[I", true)
  | 5 => ("MissingLamps$Planner", "sentThings", "[I", true)
  | 6 => ("MissingLamps$Planner", "sentCount", "I", false)
  | 7 => ("MissingLamps$Planner", "sentSteps", "I", false)
  | 8 => ("MissingLamps$Planner", "met", "[I", true)
  | 9 => ("MissingLamps$Planner", "metCount", "I", false)
  | 10 => ("MissingLamps$Planner", "tellingNights", "I", false)
  | 11 => ("MissingLamps$Planner", "tellingFolk", "I", false)
  | _ => ("MissingLamps$Planner", "tellingLeft", "I", false)
def tyX3 : Nat → FieldType := fun k => match k with
  | 0 => .object "MissingLamps$Harbour"
  | 1 => .array (.object "MissingLamps$State")
  | 2 => .array .long
  | 3 => .array .int
  | 4 => .array .int
  | 5 => .array .int
  | 6 => .int
  | 7 => .int
  | 8 => .array .int
  | 9 => .int
  | 10 => .int
  | 11 => .int
  | _ => .int
abbrev wsX30 : List Cond := u_ws RX3 TX3 13
theorem nmX3 : ∀ a, a < 13 → ∀ b, b < 13 → a ≠ b → (TX3 a).2.1 ≠ (TX3 b).2.1 := by decide +kernel
theorem tyX3_ok : ∀ k, k < 13 → parseFieldDescriptor (TX3 k).2.2.1 = some (tyX3 k) := by decide +kernel
abbrev cX3_init : ByteArray := prog_5_method_1_code
def yX3_init : MethodName := ⟨RX3, "<init>", "(LMissingLamps$Harbour;)V"⟩
abbrev cX3_behind : ByteArray := prog_5_method_2_code
def yX3_behind : MethodName := ⟨RX3, "behind", "(LMissingLamps$State;I)LMissingLamps$State;"⟩
abbrev cX3_nightsTillHome : ByteArray := prog_5_method_3_code
def yX3_nightsTillHome : MethodName := ⟨RX3, "nightsTillHome", "(LMissingLamps$State;I)I"⟩
abbrev cX3_leastLosses : ByteArray := prog_5_method_4_code
def yX3_leastLosses : MethodName := ⟨RX3, "leastLosses", "(LMissingLamps$State;II)I"⟩
abbrev cX3_turnAll : ByteArray := prog_5_method_5_code
def yX3_turnAll : MethodName := ⟨RX3, "turnAll", "(LMissingLamps$State;I)V"⟩
abbrev cX3_worstFound : ByteArray := prog_5_method_6_code
def yX3_worstFound : MethodName := ⟨RX3, "worstFound", "(LMissingLamps$State;IZ)I"⟩
abbrev cX3_leastCover : ByteArray := prog_5_method_7_code
def yX3_leastCover : MethodName := ⟨RX3, "leastCover", "(LMissingLamps$State;)I"⟩
abbrev cX3_lightOf : ByteArray := prog_5_method_8_code
def yX3_lightOf : MethodName := ⟨RX3, "lightOf", "(I)J"⟩
abbrev cX3_arrange : ByteArray := prog_5_method_9_code
def yX3_arrange : MethodName := ⟨RX3, "arrange", "(LMissingLamps$State;)V"⟩
abbrev cX3_measure : ByteArray := prog_5_method_10_code
def yX3_measure : MethodName := ⟨RX3, "measure", "(LMissingLamps$State;)V"⟩
abbrev cX3_weigh : ByteArray := prog_5_method_11_code
def yX3_weigh : MethodName := ⟨RX3, "weigh", "(I)V"⟩
abbrev cX3_worthWith : ByteArray := prog_5_method_12_code
def yX3_worthWith : MethodName := ⟨RX3, "worthWith", "(III)I"⟩
abbrev cX3_firstBest : ByteArray := prog_5_method_13_code
def yX3_firstBest : MethodName := ⟨RX3, "firstBest", "(II)I"⟩
abbrev cX3_rowsToHome : ByteArray := prog_5_method_14_code
def yX3_rowsToHome : MethodName := ⟨RX3, "rowsToHome", "(LMissingLamps$State;I)I"⟩
abbrev cX3_forgetMet : ByteArray := prog_5_method_15_code
def yX3_forgetMet : MethodName := ⟨RX3, "forgetMet", "()V"⟩
abbrev cX3_takesMet : ByteArray := prog_5_method_16_code
def yX3_takesMet : MethodName := ⟨RX3, "takesMet", "([II)Z"⟩
abbrev cX3_huesLeft : ByteArray := prog_5_method_17_code
def yX3_huesLeft : MethodName := ⟨RX3, "huesLeft", "(LMissingLamps$State;I)I"⟩
abbrev cX3_lastMetNight : ByteArray := prog_5_method_18_code
def yX3_lastMetNight : MethodName := ⟨RX3, "lastMetNight", "()I"⟩
abbrev cX3_fitsMet : ByteArray := prog_5_method_19_code
def yX3_fitsMet : MethodName := ⟨RX3, "fitsMet", "(LMissingLamps$State;I)Z"⟩
abbrev cX3_findTelling : ByteArray := prog_5_method_20_code
def yX3_findTelling : MethodName := ⟨RX3, "findTelling", "(LMissingLamps$State;II)V"⟩
abbrev cX3_supposeAll : ByteArray := prog_5_method_21_code
def yX3_supposeAll : MethodName := ⟨RX3, "supposeAll", "(LMissingLamps$State;II)I"⟩
abbrev cX3_mostAlike : ByteArray := prog_5_method_22_code
def yX3_mostAlike : MethodName := ⟨RX3, "mostAlike", "(II)I"⟩
def RX4 : String := "MissingLamps$Quay"
def TX4 : u_T := fun k => match k with
  | 0 => ("MissingLamps$Quay", "statements", "I", false)
  | 1 => ("MissingLamps$Quay", "columns", "I", false)
  | 2 => ("MissingLamps$Quay", "rows", "I", false)
  | 3 => ("MissingLamps$Quay", "pace", "I", false)
  | 4 => ("MissingLamps$Quay", "gale", "I", false)
  | 5 => ("MissingLamps$Quay", "ground", "J", false)
  | 6 => ("MissingLamps$Quay", "walls", "J", false)
  | 7 => ("MissingLamps$Quay", "things", "I", false)
  | 8 => ("MissingLamps$Quay", "thingNames", "[I", true)
  | 9 => ("MissingLamps$Quay", "thingPlaces", "[I", true)
  | 10 => ("MissingLamps$Quay", "thingHues", "[I", true)
  | 11 => ("MissingLamps$Quay", "thingHighs", "[I", true)
  | 12 => ("MissingLamps$Quay", "missingFirst", "I", false)
  | 13 => ("MissingLamps$Quay", "folk", "I", false)
  | 14 => ("MissingLamps$Quay", "folkNames", "[I", true)
  | 15 => ("MissingLamps$Quay", "starts", "[I", true)
  | 16 => ("MissingLamps$Quay", "homes", "[I", true)
  | _ => ("MissingLamps$Quay", "rules", "LMissingLamps$Rules;", true)
def tyX4 : Nat → FieldType := fun k => match k with
  | 0 => .int
  | 1 => .int
  | 2 => .int
  | 3 => .int
  | 4 => .int
  | 5 => .long
  | 6 => .long
  | 7 => .int
  | 8 => .array .int
  | 9 => .array .int
  | 10 => .array .int
  | 11 => .array .int
  | 12 => .int
  | 13 => .int
  | 14 => .array .int
  | 15 => .array .int
  | 16 => .array .int
  | _ => .object "MissingLamps$Rules"
abbrev wsX40 : List Cond := u_ws RX4 TX4 18
theorem nmX4 : ∀ a, a < 18 → ∀ b, b < 18 → a ≠ b → (TX4 a).2.1 ≠ (TX4 b).2.1 := by decide +kernel
theorem tyX4_ok : ∀ k, k < 18 → parseFieldDescriptor (TX4 k).2.2.1 = some (tyX4 k) := by decide +kernel
abbrev cX4_init : ByteArray := prog_6_method_1_code
def yX4_init : MethodName := ⟨RX4, "<init>", "()V"⟩
abbrev cX4_clear : ByteArray := prog_6_method_2_code
def yX4_clear : MethodName := ⟨RX4, "clear", "()V"⟩
abbrev cX4_setFirst : ByteArray := prog_6_method_3_code
def yX4_setFirst : MethodName := ⟨RX4, "setFirst", "(LMissingLamps$State;)V"⟩
abbrev cX4_hasCell : ByteArray := prog_6_method_4_code
def yX4_hasCell : MethodName := ⟨RX4, "hasCell", "(II)Z"⟩
abbrev cX4_hasFreeCell : ByteArray := prog_6_method_5_code
def yX4_hasFreeCell : MethodName := ⟨RX4, "hasFreeCell", "(II)Z"⟩
abbrev cX4_setSize : ByteArray := prog_6_method_6_code
def yX4_setSize : MethodName := ⟨RX4, "setSize", "(II)V"⟩
abbrev cX4_taken : ByteArray := prog_6_method_7_code
def yX4_taken : MethodName := ⟨RX4, "taken", "()J"⟩
abbrev cX4_thingNamed : ByteArray := prog_6_method_8_code
def yX4_thingNamed : MethodName := ⟨RX4, "thingNamed", "(I)I"⟩
abbrev cX4_isNamed : ByteArray := prog_6_method_9_code
def yX4_isNamed : MethodName := ⟨RX4, "isNamed", "(I)Z"⟩
def RX5 : String := "MissingLamps$Reader"
def TX5 : u_T := fun k => match k with
  | 0 => ("MissingLamps$Reader", "ownNames", "[I", true)
  | 1 => ("MissingLamps$Reader", "text", "[I", false)
  | 2 => ("MissingLamps$Reader", "length", "I", false)
  | 3 => ("MissingLamps$Reader", "at", "I", false)
  | 4 => ("MissingLamps$Reader", "kind", "I", false)
  | 5 => ("MissingLamps$Reader", "value", "I", false)
  | 6 => ("MissingLamps$Reader", "first", "I", false)
  | 7 => ("MissingLamps$Reader", "place", "I", false)
  | 8 => ("MissingLamps$Reader", "taken", "I", false)
  | 9 => ("MissingLamps$Reader", "takenPlace", "I", false)
  | 10 => ("MissingLamps$Reader", "faultKind", "I", false)
  | _ => ("MissingLamps$Reader", "faultPlace", "I", false)
def tyX5 : Nat → FieldType := fun k => match k with
  | 0 => .array .int
  | 1 => .array .int
  | 2 => .int
  | 3 => .int
  | 4 => .int
  | 5 => .int
  | 6 => .int
  | 7 => .int
  | 8 => .int
  | 9 => .int
  | 10 => .int
  | _ => .int
abbrev wsX50 : List Cond := u_ws RX5 TX5 12
theorem nmX5 : ∀ a, a < 12 → ∀ b, b < 12 → a ≠ b → (TX5 a).2.1 ≠ (TX5 b).2.1 := by decide +kernel
theorem tyX5_ok : ∀ k, k < 12 → parseFieldDescriptor (TX5 k).2.2.1 = some (tyX5 k) := by decide +kernel
abbrev cX5_init : ByteArray := prog_7_method_1_code
def yX5_init : MethodName := ⟨RX5, "<init>", "()V"⟩
abbrev cX5_begin : ByteArray := prog_7_method_2_code
def yX5_begin : MethodName := ⟨RX5, "begin", "([II)V"⟩
abbrev cX5_advance : ByteArray := prog_7_method_3_code
def yX5_advance : MethodName := ⟨RX5, "advance", "()V"⟩
abbrev cX5_readWord : ByteArray := prog_7_method_4_code
def yX5_readWord : MethodName := ⟨RX5, "readWord", "(Z)V"⟩
abbrev cX5_readNumber : ByteArray := prog_7_method_5_code
def yX5_readNumber : MethodName := ⟨RX5, "readNumber", "(Z)V"⟩
abbrev cX5_isOwn : ByteArray := prog_7_method_6_code
def yX5_isOwn : MethodName := ⟨RX5, "isOwn", "(I)Z"⟩
abbrev cX5_isSign : ByteArray := prog_7_method_7_code
def yX5_isSign : MethodName := ⟨RX5, "isSign", "(I)Z"⟩
abbrev cX5_faults : ByteArray := prog_7_method_8_code
def yX5_faults : MethodName := ⟨RX5, "faults", "(II)Z"⟩
abbrev cX5_takesOwn : ByteArray := prog_7_method_9_code
def yX5_takesOwn : MethodName := ⟨RX5, "takesOwn", "(I)Z"⟩
abbrev cX5_takesSign : ByteArray := prog_7_method_10_code
def yX5_takesSign : MethodName := ⟨RX5, "takesSign", "(I)Z"⟩
abbrev cX5_takesName : ByteArray := prog_7_method_11_code
def yX5_takesName : MethodName := ⟨RX5, "takesName", "()Z"⟩
abbrev cX5_takesNumber : ByteArray := prog_7_method_12_code
def yX5_takesNumber : MethodName := ⟨RX5, "takesNumber", "(II)Z"⟩
def RX6 : String := "MissingLamps$Reckoner"
def TX6 : u_T := fun k => match k with
  | 0 => ("MissingLamps$Reckoner", "stack", "[I", true)
  | 1 => ("MissingLamps$Reckoner", "night", "I", false)
  | 2 => ("MissingLamps$Reckoner", "hue", "I", false)
  | 3 => ("MissingLamps$Reckoner", "high", "I", false)
  | 4 => ("MissingLamps$Reckoner", "age", "I", false)
  | 5 => ("MissingLamps$Reckoner", "lost", "I", false)
  | _ => ("MissingLamps$Reckoner", "near", "I", false)
def tyX6 : Nat → FieldType := fun k => match k with
  | 0 => .array .int
  | 1 => .int
  | 2 => .int
  | 3 => .int
  | 4 => .int
  | 5 => .int
  | _ => .int
abbrev wsX60 : List Cond := u_ws RX6 TX6 7
theorem nmX6 : ∀ a, a < 7 → ∀ b, b < 7 → a ≠ b → (TX6 a).2.1 ≠ (TX6 b).2.1 := by decide +kernel
theorem tyX6_ok : ∀ k, k < 7 → parseFieldDescriptor (TX6 k).2.2.1 = some (tyX6 k) := by decide +kernel
abbrev cX6_init : ByteArray := prog_8_method_1_code
def yX6_init : MethodName := ⟨RX6, "<init>", "()V"⟩
abbrev cX6_value : ByteArray := prog_8_method_2_code
def yX6_value : MethodName := ⟨RX6, "value", "(LMissingLamps$Rules;I)I"⟩
abbrev cX6_named : ByteArray := prog_8_method_3_code
def yX6_named : MethodName := ⟨RX6, "named", "(I)I"⟩
abbrev cX6_joined : ByteArray := prog_8_method_4_code
def yX6_joined : MethodName := ⟨RX6, "joined", "(III)I"⟩
abbrev cX6_bounded : ByteArray := prog_8_method_5_code
def yX6_bounded : MethodName := ⟨RX6, "bounded", "(J)I"⟩
def RX7 : String := "MissingLamps$Rules"
def TX7 : u_T := fun k => match k with
  | 0 => ("MissingLamps$Rules", "code", "[I", true)
  | 1 => ("MissingLamps$Rules", "firsts", "[I", true)
  | 2 => ("MissingLamps$Rules", "ends", "[I", true)
  | _ => ("MissingLamps$Rules", "size", "I", false)
def tyX7 : Nat → FieldType := fun k => match k with
  | 0 => .array .int
  | 1 => .array .int
  | 2 => .array .int
  | _ => .int
abbrev wsX70 : List Cond := u_ws RX7 TX7 4
theorem nmX7 : ∀ a, a < 4 → ∀ b, b < 4 → a ≠ b → (TX7 a).2.1 ≠ (TX7 b).2.1 := by decide +kernel
theorem tyX7_ok : ∀ k, k < 4 → parseFieldDescriptor (TX7 k).2.2.1 = some (tyX7 k) := by decide +kernel
abbrev cX7_init : ByteArray := prog_9_method_1_code
def yX7_init : MethodName := ⟨RX7, "<init>", "()V"⟩
abbrev cX7_clear : ByteArray := prog_9_method_2_code
def yX7_clear : MethodName := ⟨RX7, "clear", "()V"⟩
abbrev cX7_isTold : ByteArray := prog_9_method_3_code
def yX7_isTold : MethodName := ⟨RX7, "isTold", "(I)Z"⟩
abbrev cX7_begin : ByteArray := prog_9_method_4_code
def yX7_begin : MethodName := ⟨RX7, "begin", "(I)V"⟩
abbrev cX7_close : ByteArray := prog_9_method_5_code
def yX7_close : MethodName := ⟨RX7, "close", "(I)V"⟩
abbrev cX7_put : ByteArray := prog_9_method_6_code
def yX7_put : MethodName := ⟨RX7, "put", "(I)Z"⟩
def RX8 : String := "MissingLamps$State"
def TX8 : u_T := fun k => match k with
  | 0 => ("MissingLamps$State", "night", "I", false)
  | 1 => ("MissingLamps$State", "missing", "I", false)
  | 2 => ("MissingLamps$State", "ages", "[I", true)
  | 3 => ("MissingLamps$State", "places", "[I", true)
  | 4 => ("MissingLamps$State", "supposedThing", "I", false)
  | _ => ("MissingLamps$State", "supposedHue", "I", false)
def tyX8 : Nat → FieldType := fun k => match k with
  | 0 => .int
  | 1 => .int
  | 2 => .array .int
  | 3 => .array .int
  | 4 => .int
  | _ => .int
abbrev wsX80 : List Cond := u_ws RX8 TX8 6
theorem nmX8 : ∀ a, a < 6 → ∀ b, b < 6 → a ≠ b → (TX8 a).2.1 ≠ (TX8 b).2.1 := by decide +kernel
theorem tyX8_ok : ∀ k, k < 6 → parseFieldDescriptor (TX8 k).2.2.1 = some (tyX8 k) := by decide +kernel
abbrev cX8_init : ByteArray := prog_10_method_1_code
def yX8_init : MethodName := ⟨RX8, "<init>", "()V"⟩
abbrev cX8_copyFrom : ByteArray := prog_10_method_2_code
def yX8_copyFrom : MethodName := ⟨RX8, "copyFrom", "(LMissingLamps$State;)V"⟩
abbrev cX8_isMissing : ByteArray := prog_10_method_3_code
def yX8_isMissing : MethodName := ⟨RX8, "isMissing", "(I)Z"⟩
abbrev cX8_turn : ByteArray := prog_10_method_4_code
def yX8_turn : MethodName := ⟨RX8, "turn", "(I)V"⟩
def RX9 : String := "MissingLamps$StatementReader"
def TX9 : u_T := fun k => match k with
  | 0 => ("MissingLamps$StatementReader", "reader", "LMissingLamps$Reader;", true)
  | 1 => ("MissingLamps$StatementReader", "sums", "LMissingLamps$SumReader;", true)
  | 2 => ("MissingLamps$StatementReader", "target", "LMissingLamps$Quay;", false)
  | _ => ("MissingLamps$StatementReader", "spot", "I", false)
def tyX9 : Nat → FieldType := fun k => match k with
  | 0 => .object "MissingLamps$Reader"
  | 1 => .object "MissingLamps$SumReader"
  | 2 => .object "MissingLamps$Quay"
  | _ => .int
abbrev wsX90 : List Cond := u_ws RX9 TX9 4
theorem nmX9 : ∀ a, a < 4 → ∀ b, b < 4 → a ≠ b → (TX9 a).2.1 ≠ (TX9 b).2.1 := by decide +kernel
theorem tyX9_ok : ∀ k, k < 4 → parseFieldDescriptor (TX9 k).2.2.1 = some (tyX9 k) := by decide +kernel
abbrev cX9_init : ByteArray := prog_11_method_1_code
def yX9_init : MethodName := ⟨RX9, "<init>", "(LMissingLamps$Quay;)V"⟩
abbrev cX9_faultKind : ByteArray := prog_11_method_2_code
def yX9_faultKind : MethodName := ⟨RX9, "faultKind", "()I"⟩
abbrev cX9_faultPlace : ByteArray := prog_11_method_3_code
def yX9_faultPlace : MethodName := ⟨RX9, "faultPlace", "()I"⟩
abbrev cX9_reads : ByteArray := prog_11_method_4_code
def yX9_reads : MethodName := ⟨RX9, "reads", "([IILMissingLamps$Quay;)Z"⟩
abbrev cX9_takesSize : ByteArray := prog_11_method_5_code
def yX9_takesSize : MethodName := ⟨RX9, "takesSize", "()Z"⟩
abbrev cX9_takesStatement : ByteArray := prog_11_method_6_code
def yX9_takesStatement : MethodName := ⟨RX9, "takesStatement", "()Z"⟩
abbrev cX9_takesPace : ByteArray := prog_11_method_7_code
def yX9_takesPace : MethodName := ⟨RX9, "takesPace", "()Z"⟩
abbrev cX9_takesGale : ByteArray := prog_11_method_8_code
def yX9_takesGale : MethodName := ⟨RX9, "takesGale", "()Z"⟩
abbrev cX9_takesWall : ByteArray := prog_11_method_9_code
def yX9_takesWall : MethodName := ⟨RX9, "takesWall", "()Z"⟩
abbrev cX9_takesLack : ByteArray := prog_11_method_10_code
def yX9_takesLack : MethodName := ⟨RX9, "takesLack", "()Z"⟩
abbrev cX9_takesHas : ByteArray := prog_11_method_11_code
def yX9_takesHas : MethodName := ⟨RX9, "takesHas", "()Z"⟩
abbrev cX9_takesFolk : ByteArray := prog_11_method_12_code
def yX9_takesFolk : MethodName := ⟨RX9, "takesFolk", "()Z"⟩
abbrev cX9_takesRule : ByteArray := prog_11_method_13_code
def yX9_takesRule : MethodName := ⟨RX9, "takesRule", "(I)Z"⟩
abbrev cX9_takesNewName : ByteArray := prog_11_method_14_code
def yX9_takesNewName : MethodName := ⟨RX9, "takesNewName", "()Z"⟩
abbrev cX9_takesCell : ByteArray := prog_11_method_15_code
def yX9_takesCell : MethodName := ⟨RX9, "takesCell", "(J)Z"⟩
def RX10 : String := "MissingLamps$SumReader"
def TX10 : u_T := fun k => match k with
  | 0 => ("MissingLamps$SumReader", "reader", "LMissingLamps$Reader;", true)
  | 1 => ("MissingLamps$SumReader", "rules", "LMissingLamps$Rules;", false)
  | _ => ("MissingLamps$SumReader", "rule", "I", false)
def tyX10 : Nat → FieldType := fun k => match k with
  | 0 => .object "MissingLamps$Reader"
  | 1 => .object "MissingLamps$Rules"
  | _ => .int
abbrev wsX100 : List Cond := u_ws RX10 TX10 3
theorem nmX10 : ∀ a, a < 3 → ∀ b, b < 3 → a ≠ b → (TX10 a).2.1 ≠ (TX10 b).2.1 := by decide +kernel
theorem tyX10_ok : ∀ k, k < 3 → parseFieldDescriptor (TX10 k).2.2.1 = some (tyX10 k) := by decide +kernel
abbrev cX10_init : ByteArray := prog_12_method_1_code
def yX10_init : MethodName := ⟨RX10, "<init>", "(LMissingLamps$Reader;LMissingLamps$Rules;)V"⟩
abbrev cX10_begin : ByteArray := prog_12_method_2_code
def yX10_begin : MethodName := ⟨RX10, "begin", "(LMissingLamps$Rules;I)V"⟩
abbrev cX10_takesTest : ByteArray := prog_12_method_3_code
def yX10_takesTest : MethodName := ⟨RX10, "takesTest", "(I)Z"⟩
abbrev cX10_takesBoth : ByteArray := prog_12_method_4_code
def yX10_takesBoth : MethodName := ⟨RX10, "takesBoth", "(I)Z"⟩
abbrev cX10_takesFact : ByteArray := prog_12_method_5_code
def yX10_takesFact : MethodName := ⟨RX10, "takesFact", "(I)Z"⟩
abbrev cX10_takesComparison : ByteArray := prog_12_method_6_code
def yX10_takesComparison : MethodName := ⟨RX10, "takesComparison", "(I)Z"⟩
abbrev cX10_takesSum : ByteArray := prog_12_method_7_code
def yX10_takesSum : MethodName := ⟨RX10, "takesSum", "(I)Z"⟩
abbrev cX10_takesProduct : ByteArray := prog_12_method_8_code
def yX10_takesProduct : MethodName := ⟨RX10, "takesProduct", "(I)Z"⟩
abbrev cX10_isFactorSign : ByteArray := prog_12_method_9_code
def yX10_isFactorSign : MethodName := ⟨RX10, "isFactorSign", "()Z"⟩
abbrev cX10_takesPart : ByteArray := prog_12_method_10_code
def yX10_takesPart : MethodName := ⟨RX10, "takesPart", "(I)Z"⟩
abbrev cX10_isValue : ByteArray := prog_12_method_11_code
def yX10_isValue : MethodName := ⟨RX10, "isValue", "(I)Z"⟩
abbrev cX10_takesPair : ByteArray := prog_12_method_12_code
def yX10_takesPair : MethodName := ⟨RX10, "takesPair", "(I)Z"⟩
abbrev cX10_opens : ByteArray := prog_12_method_13_code
def yX10_opens : MethodName := ⟨RX10, "opens", "(IZ)Z"⟩
def RX11 : String := "MissingLamps"
def TX11 : u_T := fun k => match k with
  | 0 => ("MissingLamps", "tape", "[I", true)
  | 1 => ("MissingLamps", "tapeSize", "I", false)
  | 2 => ("MissingLamps", "faultKind", "I", false)
  | 3 => ("MissingLamps", "faultPlace", "I", false)
  | 4 => ("MissingLamps", "plan", "LMissingLamps$Quay;", false)
  | 5 => ("MissingLamps", "spare", "LMissingLamps$Quay;", false)
  | 6 => ("MissingLamps", "statements", "LMissingLamps$StatementReader;", true)
  | 7 => ("MissingLamps", "now", "LMissingLamps$State;", true)
  | 8 => ("MissingLamps", "keptRows", "LMissingLamps$KeptRows;", true)
  | 9 => ("MissingLamps", "past", "LMissingLamps$Past;", true)
  | 10 => ("MissingLamps", "harbour", "LMissingLamps$Harbour;", true)
  | 11 => ("MissingLamps", "planner", "LMissingLamps$Planner;", true)
  | 12 => ("MissingLamps", "imageBytes", "[I", true)
  | 13 => ("MissingLamps", "imageSize", "I", false)
  | 14 => ("MissingLamps", "refusals", "[I", true)
  | _ => ("MissingLamps", "drawn", "I", false)
def tyX11 : Nat → FieldType := fun k => match k with
  | 0 => .array .int
  | 1 => .int
  | 2 => .int
  | 3 => .int
  | 4 => .object "MissingLamps$Quay"
  | 5 => .object "MissingLamps$Quay"
  | 6 => .object "MissingLamps$StatementReader"
  | 7 => .object "MissingLamps$State"
  | 8 => .object "MissingLamps$KeptRows"
  | 9 => .object "MissingLamps$Past"
  | 10 => .object "MissingLamps$Harbour"
  | 11 => .object "MissingLamps$Planner"
  | 12 => .array .int
  | 13 => .int
  | 14 => .array .int
  | _ => .int
abbrev wsX110 : List Cond := u_ws RX11 TX11 16
theorem nmX11 : ∀ a, a < 16 → ∀ b, b < 16 → a ≠ b → (TX11 a).2.1 ≠ (TX11 b).2.1 := by decide +kernel
theorem tyX11_ok : ∀ k, k < 16 → parseFieldDescriptor (TX11 k).2.2.1 = some (tyX11 k) := by decide +kernel
abbrev cX11_init : ByteArray := prog_1_method_1_code
def yX11_init : MethodName := ⟨RX11, "<init>", "()V"⟩
abbrev cX11_feed : ByteArray := prog_1_method_2_code
def yX11_feed : MethodName := ⟨RX11, "feed", "(IIIII)I"⟩
abbrev cX11_end : ByteArray := prog_1_method_3_code
def yX11_end : MethodName := ⟨RX11, "end", "(I)Z"⟩
abbrev cX11_quay : ByteArray := prog_1_method_4_code
def yX11_quay : MethodName := ⟨RX11, "quay", "()I"⟩
abbrev cX11_fault : ByteArray := prog_1_method_5_code
def yX11_fault : MethodName := ⟨RX11, "fault", "(I)I"⟩
abbrev cX11_has : ByteArray := prog_1_method_6_code
def yX11_has : MethodName := ⟨RX11, "has", "(I)I"⟩
abbrev cX11_letter : ByteArray := prog_1_method_7_code
def yX11_letter : MethodName := ⟨RX11, "letter", "(III)I"⟩
abbrev cX11_cell : ByteArray := prog_1_method_8_code
def yX11_cell : MethodName := ⟨RX11, "cell", "(III)I"⟩
abbrev cX11_thing : ByteArray := prog_1_method_9_code
def yX11_thing : MethodName := ⟨RX11, "thing", "(II)I"⟩
abbrev cX11_folk : ByteArray := prog_1_method_10_code
def yX11_folk : MethodName := ⟨RX11, "folk", "(II)I"⟩
abbrev cX11_later : ByteArray := prog_1_method_11_code
def yX11_later : MethodName := ⟨RX11, "later", "(III)I"⟩
abbrev cX11_home : ByteArray := prog_1_method_12_code
def yX11_home : MethodName := ⟨RX11, "home", "(I)I"⟩
abbrev cX11_missing : ByteArray := prog_1_method_13_code
def yX11_missing : MethodName := ⟨RX11, "missing", "(II)I"⟩
abbrev cX11_losses : ByteArray := prog_1_method_14_code
def yX11_losses : MethodName := ⟨RX11, "losses", "(II)I"⟩
abbrev cX11_worst : ByteArray := prog_1_method_15_code
def yX11_worst : MethodName := ⟨RX11, "worst", "(II)I"⟩
abbrev cX11_cover : ByteArray := prog_1_method_16_code
def yX11_cover : MethodName := ⟨RX11, "cover", "()I"⟩
abbrev cX11_send : ByteArray := prog_1_method_17_code
def yX11_send : MethodName := ⟨RX11, "send", "(I)I"⟩
abbrev cX11_odds : ByteArray := prog_1_method_18_code
def yX11_odds : MethodName := ⟨RX11, "odds", "(I)I"⟩
abbrev cX11_meet : ByteArray := prog_1_method_19_code
def yX11_meet : MethodName := ⟨RX11, "meet", "()I"⟩
abbrev cX11_hues : ByteArray := prog_1_method_20_code
def yX11_hues : MethodName := ⟨RX11, "hues", "(I)I"⟩
abbrev cX11_tells : ByteArray := prog_1_method_21_code
def yX11_tells : MethodName := ⟨RX11, "tells", "(II)I"⟩
abbrev cX11_nights : ByteArray := prog_1_method_22_code
def yX11_nights : MethodName := ⟨RX11, "nights", "(I)I"⟩
abbrev cX11_chance : ByteArray := prog_1_method_23_code
def yX11_chance : MethodName := ⟨RX11, "chance", "(I)I"⟩
abbrev cX11_lose : ByteArray := prog_1_method_24_code
def yX11_lose : MethodName := ⟨RX11, "lose", "(I)Z"⟩
abbrev cX11_find : ByteArray := prog_1_method_25_code
def yX11_find : MethodName := ⟨RX11, "find", "(I)Z"⟩
abbrev cX11_lead : ByteArray := prog_1_method_26_code
def yX11_lead : MethodName := ⟨RX11, "lead", "(III)Z"⟩
abbrev cX11_undo : ByteArray := prog_1_method_27_code
def yX11_undo : MethodName := ⟨RX11, "undo", "()Z"⟩
abbrev cX11_seed : ByteArray := prog_1_method_28_code
def yX11_seed : MethodName := ⟨RX11, "seed", "(I)Z"⟩
abbrev cX11_kept : ByteArray := prog_1_method_29_code
def yX11_kept : MethodName := ⟨RX11, "kept", "(II)I"⟩
abbrev cX11_image : ByteArray := prog_1_method_30_code
def yX11_image : MethodName := ⟨RX11, "image", "()I"⟩
abbrev cX11_octet : ByteArray := prog_1_method_31_code
def yX11_octet : MethodName := ⟨RX11, "octet", "(I)I"⟩
abbrev cX11_on : ByteArray := prog_1_method_32_code
def yX11_on : MethodName := ⟨RX11, "on", "()Z"⟩
abbrev cX11_status : ByteArray := prog_1_method_33_code
def yX11_status : MethodName := ⟨RX11, "status", "(I)I"⟩
abbrev cX11_refuse : ByteArray := prog_1_method_34_code
def yX11_refuse : MethodName := ⟨RX11, "refuse", "(I)I"⟩
abbrev cX11_refused : ByteArray := prog_1_method_35_code
def yX11_refused : MethodName := ⟨RX11, "refused", "(I)Z"⟩
abbrev cX11_putOnTape : ByteArray := prog_1_method_36_code
def yX11_putOnTape : MethodName := ⟨RX11, "putOnTape", "(I)V"⟩
abbrev cX11_takeTape : ByteArray := prog_1_method_37_code
def yX11_takeTape : MethodName := ⟨RX11, "takeTape", "()I"⟩
abbrev cX11_forgetActs : ByteArray := prog_1_method_38_code
def yX11_forgetActs : MethodName := ⟨RX11, "forgetActs", "()V"⟩
abbrev cX11_isThing : ByteArray := prog_1_method_39_code
def yX11_isThing : MethodName := ⟨RX11, "isThing", "(I)Z"⟩
abbrev cX11_isFolk : ByteArray := prog_1_method_40_code
def yX11_isFolk : MethodName := ⟨RX11, "isFolk", "(I)Z"⟩
abbrev cX11_comes : ByteArray := prog_1_method_41_code
def yX11_comes : MethodName := ⟨RX11, "comes", "(II)Z"⟩
abbrev cX11_turnByAct : ByteArray := prog_1_method_42_code
def yX11_turnByAct : MethodName := ⟨RX11, "turnByAct", "(I)V"⟩
abbrev cX11_passAndKeep : ByteArray := prog_1_method_43_code
def yX11_passAndKeep : MethodName := ⟨RX11, "passAndKeep", "(I)I"⟩
abbrev cX11_drawDark : ByteArray := prog_1_method_44_code
def yX11_drawDark : MethodName := ⟨RX11, "drawDark", "()I"⟩
abbrev cX11_draw : ByteArray := prog_1_method_45_code
def yX11_draw : MethodName := ⟨RX11, "draw", "(I)I"⟩
abbrev cX11_nightOnTape : ByteArray := prog_1_method_46_code
def yX11_nightOnTape : MethodName := ⟨RX11, "nightOnTape", "()I"⟩
abbrev cX11_holdsImage : ByteArray := prog_1_method_47_code
def yX11_holdsImage : MethodName := ⟨RX11, "holdsImage", "(I)Z"⟩
abbrev cX11_checkOf : ByteArray := prog_1_method_48_code
def yX11_checkOf : MethodName := ⟨RX11, "checkOf", "([II)I"⟩
abbrev cX11_letterOf : ByteArray := prog_1_method_49_code
def yX11_letterOf : MethodName := ⟨RX11, "letterOf", "(II)I"⟩
abbrev cX11_placeOf : ByteArray := prog_1_method_50_code
def yX11_placeOf : MethodName := ⟨RX11, "placeOf", "(II)I"⟩
abbrev cX11_columnOf : ByteArray := prog_1_method_51_code
def yX11_columnOf : MethodName := ⟨RX11, "columnOf", "(I)I"⟩
abbrev cX11_rowOf : ByteArray := prog_1_method_52_code
def yX11_rowOf : MethodName := ⟨RX11, "rowOf", "(I)I"⟩
abbrev cX11_bitOf : ByteArray := prog_1_method_53_code
def yX11_bitOf : MethodName := ⟨RX11, "bitOf", "(I)J"⟩
def RX12 : String := "MissingLampsModel"
def TX12 : u_T := fun k => match k with
  | 0 => ("MissingLampsModel", "tape", "[I", true)
  | 1 => ("MissingLampsModel", "taped", "I", false)
  | 2 => ("MissingLampsModel", "size", "I", false)
  | 3 => ("MissingLampsModel", "sign", "I", false)
  | 4 => ("MissingLampsModel", "signAt", "I", false)
  | 5 => ("MissingLampsModel", "signEnd", "I", false)
  | 6 => ("MissingLampsModel", "value", "I", false)
  | 7 => ("MissingLampsModel", "word", "J", false)
  | 8 => ("MissingLampsModel", "faultKind", "I", false)
  | 9 => ("MissingLampsModel", "faultPlace", "I", false)
  | 10 => ("MissingLampsModel", "toldKind", "I", false)
  | 11 => ("MissingLampsModel", "toldPlace", "I", false)
  | 12 => ("MissingLampsModel", "lexAt", "I", false)
  | 13 => ("MissingLampsModel", "bank", "I", false)
  | 14 => ("MissingLampsModel", "columns", "[I", true)
  | 15 => ("MissingLampsModel", "rows", "[I", true)
  | 16 => ("MissingLampsModel", "paceTold", "[I", true)
  | 17 => ("MissingLampsModel", "galeTold", "[I", true)
  | 18 => ("MissingLampsModel", "wallTold", "[I", true)
  | 19 => ("MissingLampsModel", "things", "[I", true)
  | 20 => ("MissingLampsModel", "thingAt", "[I", true)
  | 21 => ("MissingLampsModel", "hueTold", "[I", true)
  | 22 => ("MissingLampsModel", "highOf", "[I", true)
  | 23 => ("MissingLampsModel", "hasTold", "[I", true)
  | 24 => ("MissingLampsModel", "folks", "[I", true)
  | 25 => ("MissingLampsModel", "folkTold", "[I", true)
  | 26 => ("MissingLampsModel", "homeOf", "[I", true)
  | 27 => ("MissingLampsModel", "sumFrom", "[I", true)
  | 28 => ("MissingLampsModel", "sumBehind", "[I", true)
  | 29 => ("MissingLampsModel", "codeSort", "[I", true)
  | 30 => ("MissingLampsModel", "codeValue", "[I", true)
  | 31 => ("MissingLampsModel", "thingName", "[J", true)
  | 32 => ("MissingLampsModel", "folkName", "[J", true)
  | 33 => ("MissingLampsModel", "codes", "I", false)
  | 34 => ("MissingLampsModel", "in", "I", false)
  | 35 => ("MissingLampsModel", "law", "I", false)
  | 36 => ("MissingLampsModel", "frame", "[I", true)
  | 37 => ("MissingLampsModel", "phase", "[I", true)
  | 38 => ("MissingLampsModel", "begins", "[Z", true)
  | 39 => ("MissingLampsModel", "pair", "[I", true)
  | 40 => ("MissingLampsModel", "base", "[I", true)
  | 41 => ("MissingLampsModel", "deep", "I", false)
  | 42 => ("MissingLampsModel", "open", "I", false)
  | 43 => ("MissingLampsModel", "ops", "[I", true)
  | 44 => ("MissingLampsModel", "opMany", "I", false)
  | 45 => ("MissingLampsModel", "operand", "Z", false)
  | 46 => ("MissingLampsModel", "isQuay", "Z", false)
  | 47 => ("MissingLampsModel", "refused", "[I", true)
  | 48 => ("MissingLampsModel", "nightOf", "[I", true)
  | 49 => ("MissingLampsModel", "lostOf", "[I", true)
  | 50 => ("MissingLampsModel", "ageOf", "[I", true)
  | 51 => ("MissingLampsModel", "folkAt", "[I", true)
  | 52 => ("MissingLampsModel", "keptMany", "[I", true)
  | 53 => ("MissingLampsModel", "keptRow", "[I", true)
  | 54 => ("MissingLampsModel", "undoFirst", "I", false)
  | 55 => ("MissingLampsModel", "undos", "I", false)
  | 56 => ("MissingLampsModel", "seeds", "J", false)
  | 57 => ("MissingLampsModel", "hueOf", "[I", true)
  | 58 => ("MissingLampsModel", "stack", "[J", true)
  | 59 => ("MissingLampsModel", "asked", "[I", true)
  | 60 => ("MissingLampsModel", "litBy", "[I", true)
  | 61 => ("MissingLampsModel", "road", "[I", true)
  | 62 => ("MissingLampsModel", "queue", "[I", true)
  | 63 => ("MissingLampsModel", "lampsOn", "[I", true)
  | 64 => ("MissingLampsModel", "stepsTo", "[I", true)
  | 65 => ("MissingLampsModel", "leastFrom", "[I", true)
  | 66 => ("MissingLampsModel", "metMany", "I", false)
  | 67 => ("MissingLampsModel", "metNights", "[I", true)
  | 68 => ("MissingLampsModel", "metFolk", "[I", true)
  | 69 => ("MissingLampsModel", "metCell", "[I", true)
  | 70 => ("MissingLampsModel", "cellBy", "[I", true)
  | 71 => ("MissingLampsModel", "out", "[I", true)
  | _ => ("MissingLampsModel", "outs", "I", false)
def tyX12 : Nat → FieldType := fun k => match k with
  | 0 => .array .int
  | 1 => .int
  | 2 => .int
  | 3 => .int
  | 4 => .int
  | 5 => .int
  | 6 => .int
  | 7 => .long
  | 8 => .int
  | 9 => .int
  | 10 => .int
  | 11 => .int
  | 12 => .int
  | 13 => .int
  | 14 => .array .int
  | 15 => .array .int
  | 16 => .array .int
  | 17 => .array .int
  | 18 => .array .int
  | 19 => .array .int
  | 20 => .array .int
  | 21 => .array .int
  | 22 => .array .int
  | 23 => .array .int
  | 24 => .array .int
  | 25 => .array .int
  | 26 => .array .int
  | 27 => .array .int
  | 28 => .array .int
  | 29 => .array .int
  | 30 => .array .int
  | 31 => .array .long
  | 32 => .array .long
  | 33 => .int
  | 34 => .int
  | 35 => .int
  | 36 => .array .int
  | 37 => .array .int
  | 38 => .array .boolean
  | 39 => .array .int
  | 40 => .array .int
  | 41 => .int
  | 42 => .int
  | 43 => .array .int
  | 44 => .int
  | 45 => .boolean
  | 46 => .boolean
  | 47 => .array .int
  | 48 => .array .int
  | 49 => .array .int
  | 50 => .array .int
  | 51 => .array .int
  | 52 => .array .int
  | 53 => .array .int
  | 54 => .int
  | 55 => .int
  | 56 => .long
  | 57 => .array .int
  | 58 => .array .long
  | 59 => .array .int
  | 60 => .array .int
  | 61 => .array .int
  | 62 => .array .int
  | 63 => .array .int
  | 64 => .array .int
  | 65 => .array .int
  | 66 => .int
  | 67 => .array .int
  | 68 => .array .int
  | 69 => .array .int
  | 70 => .array .int
  | 71 => .array .int
  | _ => .int
abbrev wsX120 : List Cond := u_ws RX12 TX12 73
theorem nmX12 : ∀ a, a < 73 → ∀ b, b < 73 → a ≠ b → (TX12 a).2.1 ≠ (TX12 b).2.1 := by decide +kernel
theorem tyX12_ok : ∀ k, k < 73 → parseFieldDescriptor (TX12 k).2.2.1 = some (tyX12 k) := by decide +kernel
abbrev cX12_init : ByteArray := prog_14_method_1_code
def yX12_init : MethodName := ⟨RX12, "<init>", "()V"⟩
abbrev cX12_is : ByteArray := prog_14_method_2_code
def yX12_is : MethodName := ⟨RX12, "is", "(III)Z"⟩
abbrev cX12_put : ByteArray := prog_14_method_3_code
def yX12_put : MethodName := ⟨RX12, "put", "(I)V"⟩
abbrev cX12_feed : ByteArray := prog_14_method_4_code
def yX12_feed : MethodName := ⟨RX12, "feed", "(IIIII)I"⟩
abbrev cX12_end : ByteArray := prog_14_method_5_code
def yX12_end : MethodName := ⟨RX12, "end", "(I)Z"⟩
abbrev cX12_blame : ByteArray := prog_14_method_6_code
def yX12_blame : MethodName := ⟨RX12, "blame", "(II)V"⟩
abbrev cX12_isLetter : ByteArray := prog_14_method_7_code
def yX12_isLetter : MethodName := ⟨RX12, "isLetter", "(I)Z"⟩
abbrev cX12_isDigit : ByteArray := prog_14_method_8_code
def yX12_isDigit : MethodName := ⟨RX12, "isDigit", "(I)Z"⟩
abbrev cX12_lex : ByteArray := prog_14_method_9_code
def yX12_lex : MethodName := ⟨RX12, "lex", "()V"⟩
abbrev cX12_ahead : ByteArray := prog_14_method_10_code
def yX12_ahead : MethodName := ⟨RX12, "ahead", "()V"⟩
abbrev cX12_isSign : ByteArray := prog_14_method_11_code
def yX12_isSign : MethodName := ⟨RX12, "isSign", "(I)Z"⟩
abbrev cX12_isWord : ByteArray := prog_14_method_12_code
def yX12_isWord : MethodName := ⟨RX12, "isWord", "(J)Z"⟩
abbrev cX12_must : ByteArray := prog_14_method_13_code
def yX12_must : MethodName := ⟨RX12, "must", "(I)V"⟩
abbrev cX12_isOwn : ByteArray := prog_14_method_14_code
def yX12_isOwn : MethodName := ⟨RX12, "isOwn", "(J)Z"⟩
abbrev cX12_thingNamed : ByteArray := prog_14_method_15_code
def yX12_thingNamed : MethodName := ⟨RX12, "thingNamed", "(J)I"⟩
abbrev cX12_isNamed : ByteArray := prog_14_method_16_code
def yX12_isNamed : MethodName := ⟨RX12, "isNamed", "(J)Z"⟩
abbrev cX12_number : ByteArray := prog_14_method_17_code
def yX12_number : MethodName := ⟨RX12, "number", "(II)I"⟩
abbrev cX12_add : ByteArray := prog_14_method_18_code
def yX12_add : MethodName := ⟨RX12, "add", "(II)V"⟩
abbrev cX12_rank : ByteArray := prog_14_method_19_code
def yX12_rank : MethodName := ⟨RX12, "rank", "(I)I"⟩
abbrev cX12_joins : ByteArray := prog_14_method_20_code
def yX12_joins : MethodName := ⟨RX12, "joins", "(I)V"⟩
abbrev cX12_holdsBack : ByteArray := prog_14_method_21_code
def yX12_holdsBack : MethodName := ⟨RX12, "holdsBack", "(I)V"⟩
abbrev cX12_pushes : ByteArray := prog_14_method_22_code
def yX12_pushes : MethodName := ⟨RX12, "pushes", "(I)V"⟩
abbrev cX12_opens : ByteArray := prog_14_method_23_code
def yX12_opens : MethodName := ⟨RX12, "opens", "(I)V"⟩
abbrev cX12_isTest : ByteArray := prog_14_method_24_code
def yX12_isTest : MethodName := ⟨RX12, "isTest", "(I)Z"⟩
abbrev cX12_operand : ByteArray := prog_14_method_25_code
def yX12_operand : MethodName := ⟨RX12, "operand", "()Z"⟩
abbrev cX12_goesOn : ByteArray := prog_14_method_26_code
def yX12_goesOn : MethodName := ⟨RX12, "goesOn", "()Z"⟩
abbrev cX12_reads : ByteArray := prog_14_method_27_code
def yX12_reads : MethodName := ⟨RX12, "reads", "(Z)V"⟩
abbrev cX12_isCounted : ByteArray := prog_14_method_28_code
def yX12_isCounted : MethodName := ⟨RX12, "isCounted", "(Z)Z"⟩
abbrev cX12_must_ : ByteArray := prog_14_method_29_code
def yX12_must_ : MethodName := ⟨RX12, "must", "(J)V"⟩
abbrev cX12_has2 : ByteArray := prog_14_method_30_code
def yX12_has2 : MethodName := ⟨RX12, "has2", "(II)Z"⟩
abbrev cX12_fresh : ByteArray := prog_14_method_31_code
def yX12_fresh : MethodName := ⟨RX12, "fresh", "()J"⟩
abbrev cX12_isInTheWay : ByteArray := prog_14_method_32_code
def yX12_isInTheWay : MethodName := ⟨RX12, "isInTheWay", "(I)Z"⟩
abbrev cX12_cellTold : ByteArray := prog_14_method_33_code
def yX12_cellTold : MethodName := ⟨RX12, "cellTold", "(Z)I"⟩
abbrev cX12_quaying : ByteArray := prog_14_method_34_code
def yX12_quaying : MethodName := ⟨RX12, "quaying", "()V"⟩
abbrev cX12_telling : ByteArray := prog_14_method_35_code
def yX12_telling : MethodName := ⟨RX12, "telling", "(II)I"⟩
abbrev cX12_walling : ByteArray := prog_14_method_36_code
def yX12_walling : MethodName := ⟨RX12, "walling", "()V"⟩
abbrev cX12_lacking : ByteArray := prog_14_method_37_code
def yX12_lacking : MethodName := ⟨RX12, "lacking", "()V"⟩
abbrev cX12_having : ByteArray := prog_14_method_38_code
def yX12_having : MethodName := ⟨RX12, "having", "()V"⟩
abbrev cX12_folking : ByteArray := prog_14_method_39_code
def yX12_folking : MethodName := ⟨RX12, "folking", "()V"⟩
abbrev cX12_reading : ByteArray := prog_14_method_40_code
def yX12_reading : MethodName := ⟨RX12, "reading", "(I)V"⟩
abbrev cX12_statement : ByteArray := prog_14_method_41_code
def yX12_statement : MethodName := ⟨RX12, "statement", "()V"⟩
abbrev cX12_finishes : ByteArray := prog_14_method_42_code
def yX12_finishes : MethodName := ⟨RX12, "finishes", "(I)V"⟩
abbrev cX12_quay : ByteArray := prog_14_method_43_code
def yX12_quay : MethodName := ⟨RX12, "quay", "()I"⟩
abbrev cX12_fault : ByteArray := prog_14_method_44_code
def yX12_fault : MethodName := ⟨RX12, "fault", "(I)I"⟩
abbrev cX12_refuses : ByteArray := prog_14_method_45_code
def yX12_refuses : MethodName := ⟨RX12, "refuses", "(I)I"⟩
abbrev cX12_status : ByteArray := prog_14_method_46_code
def yX12_status : MethodName := ⟨RX12, "status", "(I)I"⟩
abbrev cX12_copies : ByteArray := prog_14_method_47_code
def yX12_copies : MethodName := ⟨RX12, "copies", "(II)V"⟩
abbrev cX12_begin : ByteArray := prog_14_method_48_code
def yX12_begin : MethodName := ⟨RX12, "begin", "()V"⟩
abbrev cX12_slot : ByteArray := prog_14_method_49_code
def yX12_slot : MethodName := ⟨RX12, "slot", "(I)I"⟩
abbrev cX12_keeps : ByteArray := prog_14_method_50_code
def yX12_keeps : MethodName := ⟨RX12, "keeps", "()V"⟩
abbrev cX12_undo : ByteArray := prog_14_method_51_code
def yX12_undo : MethodName := ⟨RX12, "undo", "()Z"⟩
abbrev cX12_within : ByteArray := prog_14_method_52_code
def yX12_within : MethodName := ⟨RX12, "within", "(J)J"⟩
abbrev cX12_floor : ByteArray := prog_14_method_53_code
def yX12_floor : MethodName := ⟨RX12, "floor", "(JJ)J"⟩
abbrev cX12_two : ByteArray := prog_14_method_54_code
def yX12_two : MethodName := ⟨RX12, "two", "(IJJ)J"⟩
abbrev cX12_reckons : ByteArray := prog_14_method_55_code
def yX12_reckons : MethodName := ⟨RX12, "reckons", "(I)J"⟩
abbrev cX12_isTold : ByteArray := prog_14_method_56_code
def yX12_isTold : MethodName := ⟨RX12, "isTold", "(I)Z"⟩
abbrev cX12_bits : ByteArray := prog_14_method_57_code
def yX12_bits : MethodName := ⟨RX12, "bits", "(I)I"⟩
abbrev cX12_isCell : ByteArray := prog_14_method_58_code
def yX12_isCell : MethodName := ⟨RX12, "isCell", "(II)Z"⟩
abbrev cX12_isCellOf : ByteArray := prog_14_method_59_code
def yX12_isCellOf : MethodName := ⟨RX12, "isCellOf", "(I)Z"⟩
abbrev cX12_isWall : ByteArray := prog_14_method_60_code
def yX12_isWall : MethodName := ⟨RX12, "isWall", "(I)Z"⟩
abbrev cX12_besideOf : ByteArray := prog_14_method_61_code
def yX12_besideOf : MethodName := ⟨RX12, "besideOf", "(II)I"⟩
abbrev cX12_lays : ByteArray := prog_14_method_62_code
def yX12_lays : MethodName := ⟨RX12, "lays", "(II)V"⟩
abbrev cX12_glowOf : ByteArray := prog_14_method_63_code
def yX12_glowOf : MethodName := ⟨RX12, "glowOf", "(II)I"⟩
abbrev cX12_gap : ByteArray := prog_14_method_64_code
def yX12_gap : MethodName := ⟨RX12, "gap", "(II)I"⟩
abbrev cX12_lights : ByteArray := prog_14_method_65_code
def yX12_lights : MethodName := ⟨RX12, "lights", "(II)V"⟩
abbrev cX12_leads : ByteArray := prog_14_method_66_code
def yX12_leads : MethodName := ⟨RX12, "leads", "(IZ)V"⟩
abbrev cX12_walks : ByteArray := prog_14_method_67_code
def yX12_walks : MethodName := ⟨RX12, "walks", "(II)V"⟩
abbrev cX12_isHome : ByteArray := prog_14_method_68_code
def yX12_isHome : MethodName := ⟨RX12, "isHome", "(II)Z"⟩
abbrev cX12_writesDown : ByteArray := prog_14_method_69_code
def yX12_writesDown : MethodName := ⟨RX12, "writesDown", "(III)V"⟩
abbrev cX12_turnsOver : ByteArray := prog_14_method_70_code
def yX12_turnsOver : MethodName := ⟨RX12, "turnsOver", "(II)V"⟩
abbrev cX12_isTurned : ByteArray := prog_14_method_71_code
def yX12_isTurned : MethodName := ⟨RX12, "isTurned", "(II)Z"⟩
abbrev cX12_ticks : ByteArray := prog_14_method_72_code
def yX12_ticks : MethodName := ⟨RX12, "ticks", "(II)I"⟩
abbrev cX12_isThing : ByteArray := prog_14_method_73_code
def yX12_isThing : MethodName := ⟨RX12, "isThing", "(I)Z"⟩
abbrev cX12_isFolk : ByteArray := prog_14_method_74_code
def yX12_isFolk : MethodName := ⟨RX12, "isFolk", "(I)Z"⟩
abbrev cX12_homes : ByteArray := prog_14_method_75_code
def yX12_homes : MethodName := ⟨RX12, "homes", "(I)I"⟩
abbrev cX12_has : ByteArray := prog_14_method_76_code
def yX12_has : MethodName := ⟨RX12, "has", "(I)I"⟩
abbrev cX12_letter : ByteArray := prog_14_method_77_code
def yX12_letter : MethodName := ⟨RX12, "letter", "(III)I"⟩
abbrev cX12_cell : ByteArray := prog_14_method_78_code
def yX12_cell : MethodName := ⟨RX12, "cell", "(III)I"⟩
abbrev cX12_partOf : ByteArray := prog_14_method_79_code
def yX12_partOf : MethodName := ⟨RX12, "partOf", "(II)I"⟩
abbrev cX12_thing : ByteArray := prog_14_method_80_code
def yX12_thing : MethodName := ⟨RX12, "thing", "(II)I"⟩
abbrev cX12_folk : ByteArray := prog_14_method_81_code
def yX12_folk : MethodName := ⟨RX12, "folk", "(II)I"⟩
abbrev cX12_isAhead : ByteArray := prog_14_method_82_code
def yX12_isAhead : MethodName := ⟨RX12, "isAhead", "(III)Z"⟩
abbrev cX12_runsOn : ByteArray := prog_14_method_83_code
def yX12_runsOn : MethodName := ⟨RX12, "runsOn", "(I)V"⟩
abbrev cX12_later : ByteArray := prog_14_method_84_code
def yX12_later : MethodName := ⟨RX12, "later", "(III)I"⟩
abbrev cX12_home : ByteArray := prog_14_method_85_code
def yX12_home : MethodName := ⟨RX12, "home", "(I)I"⟩
abbrev cX12_missing : ByteArray := prog_14_method_86_code
def yX12_missing : MethodName := ⟨RX12, "missing", "(II)I"⟩
abbrev cX12_turnsAll : ByteArray := prog_14_method_87_code
def yX12_turnsAll : MethodName := ⟨RX12, "turnsAll", "(I)V"⟩
abbrev cX12_losses : ByteArray := prog_14_method_88_code
def yX12_losses : MethodName := ⟨RX12, "losses", "(II)I"⟩
abbrev cX12_worst : ByteArray := prog_14_method_89_code
def yX12_worst : MethodName := ⟨RX12, "worst", "(II)I"⟩
abbrev cX12_cover : ByteArray := prog_14_method_90_code
def yX12_cover : MethodName := ⟨RX12, "cover", "()I"⟩
abbrev cX12_from : ByteArray := prog_14_method_91_code
def yX12_from : MethodName := ⟨RX12, "from", "(II)I"⟩
abbrev cX12_costOf : ByteArray := prog_14_method_92_code
def yX12_costOf : MethodName := ⟨RX12, "costOf", "(III)I"⟩
abbrev cX12_sends : ByteArray := prog_14_method_93_code
def yX12_sends : MethodName := ⟨RX12, "sends", "()V"⟩
abbrev cX12_send : ByteArray := prog_14_method_94_code
def yX12_send : MethodName := ⟨RX12, "send", "(I)I"⟩
abbrev cX12_odds : ByteArray := prog_14_method_95_code
def yX12_odds : MethodName := ⟨RX12, "odds", "(I)I"⟩
abbrev cX12_meet : ByteArray := prog_14_method_96_code
def yX12_meet : MethodName := ⟨RX12, "meet", "()I"⟩
abbrev cX12_hueBits : ByteArray := prog_14_method_97_code
def yX12_hueBits : MethodName := ⟨RX12, "hueBits", "(I)I"⟩
abbrev cX12_hues : ByteArray := prog_14_method_98_code
def yX12_hues : MethodName := ⟨RX12, "hues", "(I)I"⟩
abbrev cX12_mostBy : ByteArray := prog_14_method_99_code
def yX12_mostBy : MethodName := ⟨RX12, "mostBy", "(III)I"⟩
abbrev cX12_tells : ByteArray := prog_14_method_100_code
def yX12_tells : MethodName := ⟨RX12, "tells", "(II)I"⟩
abbrev cX12_nights : ByteArray := prog_14_method_101_code
def yX12_nights : MethodName := ⟨RX12, "nights", "(I)I"⟩
abbrev cX12_draw : ByteArray := prog_14_method_102_code
def yX12_draw : MethodName := ⟨RX12, "draw", "(I)I"⟩
abbrev cX12_chance : ByteArray := prog_14_method_103_code
def yX12_chance : MethodName := ⟨RX12, "chance", "(I)I"⟩
abbrev cX12_turnsNow : ByteArray := prog_14_method_104_code
def yX12_turnsNow : MethodName := ⟨RX12, "turnsNow", "(IZ)Z"⟩
abbrev cX12_lose : ByteArray := prog_14_method_105_code
def yX12_lose : MethodName := ⟨RX12, "lose", "(I)Z"⟩
abbrev cX12_find : ByteArray := prog_14_method_106_code
def yX12_find : MethodName := ⟨RX12, "find", "(I)Z"⟩
abbrev cX12_lead : ByteArray := prog_14_method_107_code
def yX12_lead : MethodName := ⟨RX12, "lead", "(III)Z"⟩
abbrev cX12_seed : ByteArray := prog_14_method_108_code
def yX12_seed : MethodName := ⟨RX12, "seed", "(I)Z"⟩
abbrev cX12_kept : ByteArray := prog_14_method_109_code
def yX12_kept : MethodName := ⟨RX12, "kept", "(II)I"⟩
abbrev cX12_writes : ByteArray := prog_14_method_110_code
def yX12_writes : MethodName := ⟨RX12, "writes", "(I)V"⟩
abbrev cX12_image : ByteArray := prog_14_method_111_code
def yX12_image : MethodName := ⟨RX12, "image", "()I"⟩
abbrev cX12_octet : ByteArray := prog_14_method_112_code
def yX12_octet : MethodName := ⟨RX12, "octet", "(I)I"⟩
abbrev cX12_folkOn : ByteArray := prog_14_method_113_code
def yX12_folkOn : MethodName := ⟨RX12, "folkOn", "(II)Z"⟩
abbrev cX12_comesOn : ByteArray := prog_14_method_114_code
def yX12_comesOn : MethodName := ⟨RX12, "comesOn", "(I)Z"⟩
abbrev cX12_on : ByteArray := prog_14_method_115_code
def yX12_on : MethodName := ⟨RX12, "on", "()Z"⟩
def RJ6 : String := "java/lang/Integer"
def TJ6 : u_T := fun k => match k with
  | _ => ("", "", "", false)
def tyJ6 : Nat → FieldType := fun k => match k with
  | _ => .int
abbrev wsJ60 : List Cond := u_ws RJ6 TJ6 0
theorem nmJ6 : ∀ a, a < 0 → ∀ b, b < 0 → a ≠ b → (TJ6 a).2.1 ≠ (TJ6 b).2.1 := by decide +kernel
theorem tyJ6_ok : ∀ k, k < 0 → parseFieldDescriptor (TJ6 k).2.2.1 = some (tyJ6 k) := by decide +kernel
abbrev cJ6_bitCount_0f7a4 : ByteArray := prog_15_method_49_code
def yJ6_bitCount_0f7a4 : MethodName := ⟨RJ6, "bitCount", "(I)I"⟩
def RJ13 : String := "java/lang/Long"
def TJ13 : u_T := fun k => match k with
  | _ => ("", "", "", false)
def tyJ13 : Nat → FieldType := fun k => match k with
  | _ => .int
abbrev wsJ130 : List Cond := u_ws RJ13 TJ13 0
theorem nmJ13 : ∀ a, a < 0 → ∀ b, b < 0 → a ≠ b → (TJ13 a).2.1 ≠ (TJ13 b).2.1 := by decide +kernel
theorem tyJ13_ok : ∀ k, k < 0 → parseFieldDescriptor (TJ13 k).2.2.1 = some (tyJ13 k) := by decide +kernel
abbrev cJ13_bitCount_95d88 : ByteArray := prog_16_method_50_code
def yJ13_bitCount_95d88 : MethodName := ⟨RJ13, "bitCount", "(J)I"⟩
def RJ9 : String := "java/lang/Math"
def TJ9 : u_T := fun k => match k with
  | _ => ("", "", "", false)
def tyJ9 : Nat → FieldType := fun k => match k with
  | _ => .int
abbrev wsJ90 : List Cond := u_ws RJ9 TJ9 0
theorem nmJ9 : ∀ a, a < 0 → ∀ b, b < 0 → a ≠ b → (TJ9 a).2.1 ≠ (TJ9 b).2.1 := by decide +kernel
theorem tyJ9_ok : ∀ k, k < 0 → parseFieldDescriptor (TJ9 k).2.2.1 = some (tyJ9 k) := by decide +kernel
abbrev cJ9_floorDiv_7cf53 : ByteArray := prog_17_method_47_code
def yJ9_floorDiv_7cf53 : MethodName := ⟨RJ9, "floorDiv", "(II)I"⟩
abbrev cJ9_floorMod_7cf53 : ByteArray := prog_17_method_50_code
def yJ9_floorMod_7cf53 : MethodName := ⟨RJ9, "floorMod", "(II)I"⟩
abbrev cJ9_max_7cf53 : ByteArray := prog_17_method_65_code
def yJ9_max_7cf53 : MethodName := ⟨RJ9, "max", "(II)I"⟩
abbrev cJ9_min_7cf53 : ByteArray := prog_17_method_69_code
def yJ9_min_7cf53 : MethodName := ⟨RJ9, "min", "(II)I"⟩
def RJ0 : String := "java/lang/String"
def TJ0 : u_T := fun k => match k with
  | _ => ("", "", "", false)
def tyJ0 : Nat → FieldType := fun k => match k with
  | _ => .int
abbrev wsJ00 : List Cond := u_ws RJ0 TJ0 0
theorem nmJ0 : ∀ a, a < 0 → ∀ b, b < 0 → a ≠ b → (TJ0 a).2.1 ≠ (TJ0 b).2.1 := by decide +kernel
theorem tyJ0_ok : ∀ k, k < 0 → parseFieldDescriptor (TJ0 k).2.2.1 = some (tyJ0 k) := by decide +kernel
abbrev cJ0_length_8abf5 : ByteArray := prog_18_method_54_code
def yJ0_length_8abf5 : MethodName := ⟨RJ0, "length", "()I"⟩
abbrev cJ0_charAt_5068e : ByteArray := prog_18_method_56_code
def yJ0_charAt_5068e : MethodName := ⟨RJ0, "charAt", "(I)C"⟩
abbrev cJ0_coder_7d493 : ByteArray := prog_18_method_152_code
def yJ0_coder_7d493 : MethodName := ⟨RJ0, "coder", "()B"⟩
abbrev cJ0_isLatin1_aae02 : ByteArray := prog_18_method_154_code
def yJ0_isLatin1_aae02 : MethodName := ⟨RJ0, "isLatin1", "()Z"⟩
abbrev cJ0_checkIndex_df160 : ByteArray := prog_18_method_155_code
def yJ0_checkIndex_df160 : MethodName := ⟨RJ0, "checkIndex", "(II)V"⟩
def RJ1 : String := "java/lang/StringLatin1"
def TJ1 : u_T := fun k => match k with
  | _ => ("", "", "", false)
def tyJ1 : Nat → FieldType := fun k => match k with
  | _ => .int
abbrev wsJ10 : List Cond := u_ws RJ1 TJ1 0
theorem nmJ1 : ∀ a, a < 0 → ∀ b, b < 0 → a ≠ b → (TJ1 a).2.1 ≠ (TJ1 b).2.1 := by decide +kernel
theorem tyJ1_ok : ∀ k, k < 0 → parseFieldDescriptor (TJ1 k).2.2.1 = some (tyJ1 k) := by decide +kernel
abbrev cJ1_charAt_3b067 : ByteArray := prog_19_method_2_code
def yJ1_charAt_3b067 : MethodName := ⟨RJ1, "charAt", "([BI)C"⟩
def RJ2 : String := "java/lang/StringUTF16"
def TJ2 : u_T := fun k => match k with
  | _ => ("", "", "", false)
def tyJ2 : Nat → FieldType := fun k => match k with
  | _ => .int
abbrev wsJ20 : List Cond := u_ws RJ2 TJ2 0
theorem nmJ2 : ∀ a, a < 0 → ∀ b, b < 0 → a ≠ b → (TJ2 a).2.1 ≠ (TJ2 b).2.1 := by decide +kernel
theorem tyJ2_ok : ∀ k, k < 0 → parseFieldDescriptor (TJ2 k).2.2.1 = some (tyJ2 k) := by decide +kernel
abbrev cJ2_getChar_3b067 : ByteArray := prog_20_method_5_code
def yJ2_getChar_3b067 : MethodName := ⟨RJ2, "getChar", "([BI)C"⟩
abbrev cJ2_length_9d52b : ByteArray := prog_20_method_6_code
def yJ2_length_9d52b : MethodName := ⟨RJ2, "length", "([B)I"⟩
abbrev cJ2_charAt_3b067 : ByteArray := prog_20_method_83_code
def yJ2_charAt_3b067 : MethodName := ⟨RJ2, "charAt", "([BI)C"⟩
abbrev cJ2_checkIndex_2214a : ByteArray := prog_20_method_91_code
def yJ2_checkIndex_2214a : MethodName := ⟨RJ2, "checkIndex", "(I[B)V"⟩
def RJ10 : String := "java/lang/System"
def TJ10 : u_T := fun k => match k with
  | _ => ("", "", "", false)
def tyJ10 : Nat → FieldType := fun k => match k with
  | _ => .int
abbrev wsJ100 : List Cond := u_ws RJ10 TJ10 0
theorem nmJ10 : ∀ a, a < 0 → ∀ b, b < 0 → a ≠ b → (TJ10 a).2.1 ≠ (TJ10 b).2.1 := by decide +kernel
theorem tyJ10_ok : ∀ k, k < 0 → parseFieldDescriptor (TJ10 k).2.2.1 = some (tyJ10 k) := by decide +kernel
def RJ3 : String := "jdk/internal/util/Preconditions"
def TJ3 : u_T := fun k => match k with
  | _ => ("", "", "", false)
def tyJ3 : Nat → FieldType := fun k => match k with
  | _ => .int
abbrev wsJ30 : List Cond := u_ws RJ3 TJ3 0
theorem nmJ3 : ∀ a, a < 0 → ∀ b, b < 0 → a ≠ b → (TJ3 a).2.1 ≠ (TJ3 b).2.1 := by decide +kernel
theorem tyJ3_ok : ∀ k, k < 0 → parseFieldDescriptor (TJ3 k).2.2.1 = some (tyJ3 k) := by decide +kernel
abbrev cJ3_checkIndex_8e157 : ByteArray := prog_22_method_11_code
def yJ3_checkIndex_8e157 : MethodName := ⟨RJ3, "checkIndex", "(IILjava/util/function/BiFunction;)I"⟩
def RL : String := "MissingLampsLaw"
abbrev cL_law : ByteArray := code
def yL_law : MethodName := ⟨RL, "law", "([I)Z"⟩
abbrev vwCl : List vw_C := [(RX0, TX0, 5), (RX1, TX1, 4), (RX2, TX2, 4), (RX3, TX3, 13), (RX4, TX4, 18), (RX5, TX5, 12), (RX6, TX6, 7), (RX7, TX7, 4), (RX8, TX8, 6), (RX9, TX9, 4), (RX10, TX10, 3), (RX11, TX11, 16), (RX12, TX12, 73)]
end
section
def ztb : List Cond := lw_tbl.filter goodWord
theorem ztb_good : ∀ w ∈ ztb, goodWord w = true := fun w h => (List.mem_filter.mp h).2
theorem zt_in0 {w : Cond} (h : w ∈ tables_1_1) (hg : goodWord w = true) : w ∈ ztb := List.mem_filter.mpr ⟨List.mem_append_right _ (List.mem_append_left _ (h)), hg⟩
theorem zt_in1 {w : Cond} (h : w ∈ tables_1_2) (hg : goodWord w = true) : w ∈ ztb := List.mem_filter.mpr ⟨List.mem_append_right _ (List.mem_append_right _ (List.mem_append_left _ (h))), hg⟩
theorem zt_in2 {w : Cond} (h : w ∈ tables_1_3) (hg : goodWord w = true) : w ∈ ztb := List.mem_filter.mpr ⟨List.mem_append_right _ (List.mem_append_right _ (List.mem_append_right _ (List.mem_append_left _ (h)))), hg⟩
theorem zt_in3 {w : Cond} (h : w ∈ tables_1_4) (hg : goodWord w = true) : w ∈ ztb := List.mem_filter.mpr ⟨List.mem_append_right _ (List.mem_append_right _ (List.mem_append_right _ (List.mem_append_right _ (List.mem_append_left _ (h))))), hg⟩
theorem zt_in4 {w : Cond} (h : w ∈ tables_1_5) (hg : goodWord w = true) : w ∈ ztb := List.mem_filter.mpr ⟨List.mem_append_right _ (List.mem_append_right _ (List.mem_append_right _ (List.mem_append_right _ (List.mem_append_right _ (List.mem_append_left _ (h)))))), hg⟩
theorem zt_in5 {w : Cond} (h : w ∈ tables_1_6) (hg : goodWord w = true) : w ∈ ztb := List.mem_filter.mpr ⟨List.mem_append_right _ (List.mem_append_right _ (List.mem_append_right _ (List.mem_append_right _ (List.mem_append_right _ (List.mem_append_right _ (List.mem_append_left _ (h))))))), hg⟩
theorem zt_in6 {w : Cond} (h : w ∈ tables_1_7) (hg : goodWord w = true) : w ∈ ztb := List.mem_filter.mpr ⟨List.mem_append_right _ (List.mem_append_right _ (List.mem_append_right _ (List.mem_append_right _ (List.mem_append_right _ (List.mem_append_right _ (List.mem_append_right _ (List.mem_append_left _ (h)))))))), hg⟩
theorem zt_in7 {w : Cond} (h : w ∈ tables_1_8) (hg : goodWord w = true) : w ∈ ztb := List.mem_filter.mpr ⟨List.mem_append_right _ (List.mem_append_right _ (List.mem_append_right _ (List.mem_append_right _ (List.mem_append_right _ (List.mem_append_right _ (List.mem_append_right _ (List.mem_append_right _ (List.mem_append_left _ (h))))))))), hg⟩
theorem zt_in8 {w : Cond} (h : w ∈ tables_1_9) (hg : goodWord w = true) : w ∈ ztb := List.mem_filter.mpr ⟨List.mem_append_right _ (List.mem_append_right _ (List.mem_append_right _ (List.mem_append_right _ (List.mem_append_right _ (List.mem_append_right _ (List.mem_append_right _ (List.mem_append_right _ (List.mem_append_right _ (h))))))))), hg⟩
theorem zs_in0 {q : MethodName × Nat} (h : q ∈ lw_privs_1) (hg : goodWord (Cond.selects q.1.cls q.1 q.1) = true) : Cond.selects q.1.cls q.1 q.1 ∈ ztb := List.mem_filter.mpr ⟨List.mem_append_left _ (List.mem_map.mpr ⟨q, List.mem_append_left _ (h), rfl⟩), hg⟩
theorem zs_in1 {q : MethodName × Nat} (h : q ∈ lw_privs_2) (hg : goodWord (Cond.selects q.1.cls q.1 q.1) = true) : Cond.selects q.1.cls q.1 q.1 ∈ ztb := List.mem_filter.mpr ⟨List.mem_append_left _ (List.mem_map.mpr ⟨q, List.mem_append_right _ (List.mem_append_left _ (h)), rfl⟩), hg⟩
theorem zs_in2 {q : MethodName × Nat} (h : q ∈ lw_privs_3) (hg : goodWord (Cond.selects q.1.cls q.1 q.1) = true) : Cond.selects q.1.cls q.1 q.1 ∈ ztb := List.mem_filter.mpr ⟨List.mem_append_left _ (List.mem_map.mpr ⟨q, List.mem_append_right _ (List.mem_append_right _ (List.mem_append_left _ (h))), rfl⟩), hg⟩
theorem zs_in3 {q : MethodName × Nat} (h : q ∈ lw_privs_4) (hg : goodWord (Cond.selects q.1.cls q.1 q.1) = true) : Cond.selects q.1.cls q.1 q.1 ∈ ztb := List.mem_filter.mpr ⟨List.mem_append_left _ (List.mem_map.mpr ⟨q, List.mem_append_right _ (List.mem_append_right _ (List.mem_append_right _ (List.mem_append_left _ (h)))), rfl⟩), hg⟩
theorem zs_in4 {q : MethodName × Nat} (h : q ∈ lw_privs_5) (hg : goodWord (Cond.selects q.1.cls q.1 q.1) = true) : Cond.selects q.1.cls q.1 q.1 ∈ ztb := List.mem_filter.mpr ⟨List.mem_append_left _ (List.mem_map.mpr ⟨q, List.mem_append_right _ (List.mem_append_right _ (List.mem_append_right _ (List.mem_append_right _ (List.mem_append_left _ (h))))), rfl⟩), hg⟩
theorem zs_in5 {q : MethodName × Nat} (h : q ∈ lw_privs_6) (hg : goodWord (Cond.selects q.1.cls q.1 q.1) = true) : Cond.selects q.1.cls q.1 q.1 ∈ ztb := List.mem_filter.mpr ⟨List.mem_append_left _ (List.mem_map.mpr ⟨q, List.mem_append_right _ (List.mem_append_right _ (List.mem_append_right _ (List.mem_append_right _ (List.mem_append_right _ (List.mem_append_left _ (h)))))), rfl⟩), hg⟩
theorem zs_in6 {q : MethodName × Nat} (h : q ∈ lw_privs_7) (hg : goodWord (Cond.selects q.1.cls q.1 q.1) = true) : Cond.selects q.1.cls q.1 q.1 ∈ ztb := List.mem_filter.mpr ⟨List.mem_append_left _ (List.mem_map.mpr ⟨q, List.mem_append_right _ (List.mem_append_right _ (List.mem_append_right _ (List.mem_append_right _ (List.mem_append_right _ (List.mem_append_right _ (List.mem_append_left _ (h))))))), rfl⟩), hg⟩
theorem zs_in7 {q : MethodName × Nat} (h : q ∈ lw_privs_8) (hg : goodWord (Cond.selects q.1.cls q.1 q.1) = true) : Cond.selects q.1.cls q.1 q.1 ∈ ztb := List.mem_filter.mpr ⟨List.mem_append_left _ (List.mem_map.mpr ⟨q, List.mem_append_right _ (List.mem_append_right _ (List.mem_append_right _ (List.mem_append_right _ (List.mem_append_right _ (List.mem_append_right _ (List.mem_append_right _ (h))))))), rfl⟩), hg⟩
theorem zw_0 : Cond.methodLink "MissingLamps$Harbour" (3 : Nat) ({ cls := "java/lang/Object", name := "<init>", desc := "()V" } : MethodName) ∈ ztb := zt_in1 (List.mem_of_getElem? (i := 158) rfl) rfl
theorem zw_1 : Cond.instanceMethod ({ cls := "java/lang/Object", name := "<init>", desc := "()V" } : MethodName) ∈ ztb := zt_in0 (List.mem_of_getElem? (i := 28) rfl) rfl
theorem zw_2 : Cond.code ({ cls := "java/lang/Object", name := "<init>", desc := "()V" } : MethodName) object_method_1_code (1 : Nat) (Option.none : Option FieldType) ∈ ztb := zt_in0 (List.mem_of_getElem? (i := 29) rfl) rfl
theorem zw_3 : Cond.classLink "MissingLamps$Harbour" (9 : Nat) "MissingLamps$Reckoner" ∈ ztb := zt_in1 (List.mem_of_getElem? (i := 159) rfl) rfl
theorem zw_4 : Cond.instantiable "MissingLamps$Reckoner" (7 : Nat) ∈ ztb := zt_in1 (List.mem_of_getElem? (i := 160) rfl) rfl
theorem zw_5 : Cond.initialized "MissingLamps$Reckoner" ∈ ztb := zt_in0 (List.mem_of_getElem? (i := 15) rfl) rfl
theorem zw_6 : Cond.instanceMethod ({ cls := "MissingLamps$Reckoner", name := "<init>", desc := "()V" } : MethodName) ∈ ztb := zt_in1 (List.mem_of_getElem? (i := 162) rfl) rfl
theorem zw_7 : Cond.fieldLink "MissingLamps$Harbour" (12 : Nat) "MissingLamps$Harbour" "reckoner" "LMissingLamps$Reckoner;" ∈ ztb := zt_in1 (List.mem_of_getElem? (i := 195) rfl) rfl
theorem zw_8 : Cond.arrayClass FieldType.long ∈ ztb := zt_in1 (List.mem_of_getElem? (i := 212) rfl) rfl
theorem zw_9 : Cond.fieldLink "MissingLamps$Harbour" (18 : Nat) "MissingLamps$Harbour" "rings" "[J" ∈ ztb := zt_in1 (List.mem_of_getElem? (i := 196) rfl) rfl
theorem zw_10 : Cond.fieldLink "MissingLamps$Harbour" (22 : Nat) "MissingLamps$Harbour" "plan" "LMissingLamps$Quay;" ∈ ztb := zt_in1 (List.mem_of_getElem? (i := 193) rfl) rfl
theorem zw_11 : Cond.methodLink "MissingLamps$Harbour" (26 : Nat) ({ cls := "MissingLamps$Harbour", name := "lit", desc := "(LMissingLamps$State;I)J" } : MethodName) ∈ ztb := zt_in4 (List.mem_of_getElem? (i := 11) rfl) rfl
theorem zw_12 : Cond.instanceMethod ({ cls := "MissingLamps$Harbour", name := "lit", desc := "(LMissingLamps$State;I)J" } : MethodName) ∈ ztb := zt_in3 (List.mem_of_getElem? (i := 113) rfl) rfl
theorem zw_13 : Cond.selects "MissingLamps$Harbour" ({ cls := "MissingLamps$Harbour", name := "lit", desc := "(LMissingLamps$State;I)J" } : MethodName) ({ cls := "MissingLamps$Harbour", name := "lit", desc := "(LMissingLamps$State;I)J" } : MethodName) ∈ ztb := zt_in3 (List.mem_of_getElem? (i := 114) rfl) rfl
theorem zw_14 : Cond.fieldLink "MissingLamps$Harbour" (30 : Nat) "MissingLamps$Quay" "folk" "I" ∈ ztb := zt_in0 (List.mem_of_getElem? (i := 107) rfl) rfl
theorem zw_15 : Cond.fieldLink "MissingLamps$Harbour" (36 : Nat) "MissingLamps$State" "places" "[I" ∈ ztb := zt_in1 (List.mem_of_getElem? (i := 81) rfl) rfl
theorem zw_16 : Cond.fieldLink "MissingLamps$Harbour" (42 : Nat) "MissingLamps$Quay" "homes" "[I" ∈ ztb := zt_in0 (List.mem_of_getElem? (i := 117) rfl) rfl
theorem zw_17 : Cond.methodLink "MissingLamps$Harbour" (45 : Nat) ({ cls := "MissingLamps$Harbour", name := "walked", desc := "(IIJ)I" } : MethodName) ∈ ztb := zt_in4 (List.mem_of_getElem? (i := 12) rfl) rfl
theorem zw_18 : Cond.instanceMethod ({ cls := "MissingLamps$Harbour", name := "walked", desc := "(IIJ)I" } : MethodName) ∈ ztb := zt_in4 (List.mem_of_getElem? (i := 13) rfl) rfl
theorem zw_19 : Cond.selects "MissingLamps$Harbour" ({ cls := "MissingLamps$Harbour", name := "walked", desc := "(IIJ)I" } : MethodName) ({ cls := "MissingLamps$Harbour", name := "walked", desc := "(IIJ)I" } : MethodName) ∈ ztb := zt_in4 (List.mem_of_getElem? (i := 14) rfl) rfl
theorem zw_20 : Cond.methodLink "MissingLamps$Harbour" (49 : Nat) ({ cls := "MissingLamps$Harbour", name := "settle", desc := "(LMissingLamps$State;)V" } : MethodName) ∈ ztb := zt_in4 (List.mem_of_getElem? (i := 20) rfl) rfl
theorem zw_21 : Cond.instanceMethod ({ cls := "MissingLamps$Harbour", name := "settle", desc := "(LMissingLamps$State;)V" } : MethodName) ∈ ztb := zt_in4 (List.mem_of_getElem? (i := 22) rfl) rfl
theorem zw_22 : Cond.selects "MissingLamps$Harbour" ({ cls := "MissingLamps$Harbour", name := "settle", desc := "(LMissingLamps$State;)V" } : MethodName) ({ cls := "MissingLamps$Harbour", name := "settle", desc := "(LMissingLamps$State;)V" } : MethodName) ∈ ztb := zs_in2 (q := (⟨"MissingLamps$Harbour", "settle", "(LMissingLamps$State;)V"⟩, 5)) (List.mem_of_getElem? (i := 3) rfl) rfl
theorem zw_23 : Cond.fieldLink "MissingLamps$Harbour" (53 : Nat) "MissingLamps$Quay" "things" "I" ∈ ztb := zt_in0 (List.mem_of_getElem? (i := 84) rfl) rfl
theorem zw_24 : Cond.methodLink "MissingLamps$Harbour" (56 : Nat) ({ cls := "MissingLamps$State", name := "isMissing", desc := "(I)Z" } : MethodName) ∈ ztb := zt_in3 (List.mem_of_getElem? (i := 116) rfl) rfl
theorem zw_25 : Cond.instanceMethod ({ cls := "MissingLamps$State", name := "isMissing", desc := "(I)Z" } : MethodName) ∈ ztb := zt_in3 (List.mem_of_getElem? (i := 117) rfl) rfl
theorem zw_26 : Cond.selects "MissingLamps$State" ({ cls := "MissingLamps$State", name := "isMissing", desc := "(I)Z" } : MethodName) ({ cls := "MissingLamps$State", name := "isMissing", desc := "(I)Z" } : MethodName) ∈ ztb := zt_in3 (List.mem_of_getElem? (i := 118) rfl) rfl
theorem zw_27 : Cond.fieldLink "MissingLamps$Harbour" (60 : Nat) "MissingLamps$Quay" "thingPlaces" "[I" ∈ ztb := zt_in0 (List.mem_of_getElem? (i := 92) rfl) rfl
theorem zw_28 : Cond.methodLink "MissingLamps$Harbour" (63 : Nat) ({ cls := "MissingLamps$Harbour", name := "glow", desc := "(LMissingLamps$State;I)I" } : MethodName) ∈ ztb := zt_in3 (List.mem_of_getElem? (i := 120) rfl) rfl
theorem zw_29 : Cond.instanceMethod ({ cls := "MissingLamps$Harbour", name := "glow", desc := "(LMissingLamps$State;I)I" } : MethodName) ∈ ztb := zt_in3 (List.mem_of_getElem? (i := 121) rfl) rfl
theorem zw_30 : Cond.selects "MissingLamps$Harbour" ({ cls := "MissingLamps$Harbour", name := "glow", desc := "(LMissingLamps$State;I)I" } : MethodName) ({ cls := "MissingLamps$Harbour", name := "glow", desc := "(LMissingLamps$State;I)I" } : MethodName) ∈ ztb := zt_in3 (List.mem_of_getElem? (i := 122) rfl) rfl
theorem zw_31 : Cond.methodLink "MissingLamps$Harbour" (67 : Nat) ({ cls := "MissingLamps$Harbour", name := "light", desc := "(II)J" } : MethodName) ∈ ztb := zt_in3 (List.mem_of_getElem? (i := 164) rfl) rfl
theorem zw_32 : Cond.instanceMethod ({ cls := "MissingLamps$Harbour", name := "light", desc := "(II)J" } : MethodName) ∈ ztb := zt_in3 (List.mem_of_getElem? (i := 165) rfl) rfl
theorem zw_33 : Cond.selects "MissingLamps$Harbour" ({ cls := "MissingLamps$Harbour", name := "light", desc := "(II)J" } : MethodName) ({ cls := "MissingLamps$Harbour", name := "light", desc := "(II)J" } : MethodName) ∈ ztb := zt_in3 (List.mem_of_getElem? (i := 166) rfl) rfl
theorem zw_34 : Cond.fieldLink "MissingLamps$Harbour" (71 : Nat) "MissingLamps$Quay" "rules" "LMissingLamps$Rules;" ∈ ztb := zt_in0 (List.mem_of_getElem? (i := 123) rfl) rfl
theorem zw_35 : Cond.methodLink "MissingLamps$Harbour" (75 : Nat) ({ cls := "MissingLamps$Rules", name := "isTold", desc := "(I)Z" } : MethodName) ∈ ztb := zt_in3 (List.mem_of_getElem? (i := 124) rfl) rfl
theorem zw_36 : Cond.instanceMethod ({ cls := "MissingLamps$Rules", name := "isTold", desc := "(I)Z" } : MethodName) ∈ ztb := zt_in2 (List.mem_of_getElem? (i := 235) rfl) rfl
theorem zw_37 : Cond.selects "MissingLamps$Rules" ({ cls := "MissingLamps$Rules", name := "isTold", desc := "(I)Z" } : MethodName) ({ cls := "MissingLamps$Rules", name := "isTold", desc := "(I)Z" } : MethodName) ∈ ztb := zt_in2 (List.mem_of_getElem? (i := 236) rfl) rfl
theorem zw_38 : Cond.methodLink "MissingLamps$Harbour" (80 : Nat) ({ cls := "MissingLamps$Harbour", name := "hueOf", desc := "(LMissingLamps$State;I)I" } : MethodName) ∈ ztb := zt_in3 (List.mem_of_getElem? (i := 125) rfl) rfl
theorem zw_39 : Cond.instanceMethod ({ cls := "MissingLamps$Harbour", name := "hueOf", desc := "(LMissingLamps$State;I)I" } : MethodName) ∈ ztb := zt_in3 (List.mem_of_getElem? (i := 127) rfl) rfl
theorem zw_40 : Cond.selects "MissingLamps$Harbour" ({ cls := "MissingLamps$Harbour", name := "hueOf", desc := "(LMissingLamps$State;I)I" } : MethodName) ({ cls := "MissingLamps$Harbour", name := "hueOf", desc := "(LMissingLamps$State;I)I" } : MethodName) ∈ ztb := zs_in1 (q := (⟨"MissingLamps$Harbour", "hueOf", "(LMissingLamps$State;I)I"⟩, 5)) (List.mem_of_getElem? (i := 13) rfl) rfl
theorem zw_41 : Cond.methodLink "MissingLamps$Harbour" (83 : Nat) ({ cls := "MissingLamps$Harbour", name := "setOut", desc := "(LMissingLamps$State;I)V" } : MethodName) ∈ ztb := zt_in3 (List.mem_of_getElem? (i := 129) rfl) rfl
theorem zw_42 : Cond.instanceMethod ({ cls := "MissingLamps$Harbour", name := "setOut", desc := "(LMissingLamps$State;I)V" } : MethodName) ∈ ztb := zt_in3 (List.mem_of_getElem? (i := 131) rfl) rfl
theorem zw_43 : Cond.selects "MissingLamps$Harbour" ({ cls := "MissingLamps$Harbour", name := "setOut", desc := "(LMissingLamps$State;I)V" } : MethodName) ({ cls := "MissingLamps$Harbour", name := "setOut", desc := "(LMissingLamps$State;I)V" } : MethodName) ∈ ztb := zs_in1 (q := (⟨"MissingLamps$Harbour", "setOut", "(LMissingLamps$State;I)V"⟩, 5)) (List.mem_of_getElem? (i := 14) rfl) rfl
theorem zw_44 : Cond.methodLink "MissingLamps$Harbour" (87 : Nat) ({ cls := "MissingLamps$Reckoner", name := "value", desc := "(LMissingLamps$Rules;I)I" } : MethodName) ∈ ztb := zt_in3 (List.mem_of_getElem? (i := 134) rfl) rfl
theorem zw_45 : Cond.instanceMethod ({ cls := "MissingLamps$Reckoner", name := "value", desc := "(LMissingLamps$Rules;I)I" } : MethodName) ∈ ztb := zt_in3 (List.mem_of_getElem? (i := 135) rfl) rfl
theorem zw_46 : Cond.selects "MissingLamps$Reckoner" ({ cls := "MissingLamps$Reckoner", name := "value", desc := "(LMissingLamps$Rules;I)I" } : MethodName) ({ cls := "MissingLamps$Reckoner", name := "value", desc := "(LMissingLamps$Rules;I)I" } : MethodName) ∈ ztb := zt_in3 (List.mem_of_getElem? (i := 136) rfl) rfl
theorem zw_47 : Cond.methodLink "MissingLamps$Harbour" (91 : Nat) ({ cls := "java/lang/Math", name := "min", desc := "(II)I" } : MethodName) ∈ ztb := zt_in3 (List.mem_of_getElem? (i := 162) rfl) rfl
theorem zw_48 : Cond.static ({ cls := "java/lang/Math", name := "min", desc := "(II)I" } : MethodName) ∈ ztb := zt_in2 (List.mem_of_getElem? (i := 122) rfl) rfl
theorem zw_49 : Cond.initialized "java/lang/Math" ∈ ztb := zt_in0 (List.mem_of_getElem? (i := 18) rfl) rfl
theorem zw_50 : Cond.code ({ cls := "java/lang/Math", name := "min", desc := "(II)I" } : MethodName) prog_17_method_69_code (2 : Nat) (Option.some FieldType.int) ∈ ztb := zt_in2 (List.mem_of_getElem? (i := 123) rfl) rfl
theorem zw_51 : Cond.methodLink "MissingLamps$Harbour" (97 : Nat) ({ cls := "java/lang/Math", name := "max", desc := "(II)I" } : MethodName) ∈ ztb := zt_in3 (List.mem_of_getElem? (i := 163) rfl) rfl
theorem zw_52 : Cond.static ({ cls := "java/lang/Math", name := "max", desc := "(II)I" } : MethodName) ∈ ztb := zt_in3 (List.mem_of_getElem? (i := 156) rfl) rfl
theorem zw_53 : Cond.code ({ cls := "java/lang/Math", name := "max", desc := "(II)I" } : MethodName) prog_17_method_65_code (2 : Nat) (Option.some FieldType.int) ∈ ztb := zt_in3 (List.mem_of_getElem? (i := 157) rfl) rfl
theorem zw_54 : Cond.static ({ cls := "MissingLamps", name := "bitOf", desc := "(I)J" } : MethodName) ∈ ztb := zt_in2 (List.mem_of_getElem? (i := 190) rfl) rfl
theorem zw_55 : Cond.methodLink "MissingLamps$Harbour" (104 : Nat) ({ cls := "MissingLamps$Harbour", name := "nextTo", desc := "(J)J" } : MethodName) ∈ ztb := zt_in3 (List.mem_of_getElem? (i := 169) rfl) rfl
theorem zw_56 : Cond.static ({ cls := "MissingLamps$Harbour", name := "nextTo", desc := "(J)J" } : MethodName) ∈ ztb := zt_in3 (List.mem_of_getElem? (i := 170) rfl) rfl
theorem zw_57 : Cond.fieldLink "MissingLamps$Harbour" (108 : Nat) "MissingLamps$Quay" "ground" "J" ∈ ztb := zt_in0 (List.mem_of_getElem? (i := 76) rfl) rfl
theorem zw_58 : Cond.fieldLink "MissingLamps$Harbour" (112 : Nat) "MissingLamps$Quay" "walls" "J" ∈ ztb := zt_in0 (List.mem_of_getElem? (i := 79) rfl) rfl
theorem zw_59 : Cond.constantLong "MissingLamps$Harbour" (115 : Nat) (-1 : Int64) ∈ ztb := zt_in3 (List.mem_of_getElem? (i := 172) rfl) rfl
theorem zw_60 : Cond.methodLink "MissingLamps$Harbour" (117 : Nat) ({ cls := "MissingLamps$Harbour", name := "road", desc := "(IIJ)I" } : MethodName) ∈ ztb := zt_in4 (List.mem_of_getElem? (i := 16) rfl) rfl
theorem zw_61 : Cond.instanceMethod ({ cls := "MissingLamps$Harbour", name := "road", desc := "(IIJ)I" } : MethodName) ∈ ztb := zt_in3 (List.mem_of_getElem? (i := 227) rfl) rfl
theorem zw_62 : Cond.selects "MissingLamps$Harbour" ({ cls := "MissingLamps$Harbour", name := "road", desc := "(IIJ)I" } : MethodName) ({ cls := "MissingLamps$Harbour", name := "road", desc := "(IIJ)I" } : MethodName) ∈ ztb := zt_in3 (List.mem_of_getElem? (i := 228) rfl) rfl
theorem zw_63 : Cond.fieldLink "MissingLamps$Harbour" (120 : Nat) "MissingLamps$Quay" "pace" "I" ∈ ztb := zt_in0 (List.mem_of_getElem? (i := 70) rfl) rfl
theorem zw_64 : Cond.methodLink "MissingLamps$Harbour" (123 : Nat) ({ cls := "MissingLamps$Harbour", name := "stepped", desc := "(IJ)I" } : MethodName) ∈ ztb := zt_in4 (List.mem_of_getElem? (i := 17) rfl) rfl
theorem zw_65 : Cond.static ({ cls := "MissingLamps$Harbour", name := "stepped", desc := "(IJ)I" } : MethodName) ∈ ztb := zt_in4 (List.mem_of_getElem? (i := 18) rfl) rfl
theorem zw_66 : Cond.fieldLink "MissingLamps$Harbour" (127 : Nat) "MissingLamps$Harbour" "foundThings" "I" ∈ ztb := zt_in1 (List.mem_of_getElem? (i := 197) rfl) rfl
theorem zw_67 : Cond.fieldLink "MissingLamps$Harbour" (130 : Nat) "MissingLamps$Harbour" "lostThings" "I" ∈ ztb := zt_in1 (List.mem_of_getElem? (i := 199) rfl) rfl
theorem zw_68 : Cond.methodLink "MissingLamps$Harbour" (133 : Nat) ({ cls := "MissingLamps$Harbour", name := "isLost", desc := "(LMissingLamps$State;I)Z" } : MethodName) ∈ ztb := zt_in4 (List.mem_of_getElem? (i := 24) rfl) rfl
theorem zw_69 : Cond.instanceMethod ({ cls := "MissingLamps$Harbour", name := "isLost", desc := "(LMissingLamps$State;I)Z" } : MethodName) ∈ ztb := zt_in4 (List.mem_of_getElem? (i := 26) rfl) rfl
theorem zw_70 : Cond.selects "MissingLamps$Harbour" ({ cls := "MissingLamps$Harbour", name := "isLost", desc := "(LMissingLamps$State;I)Z" } : MethodName) ({ cls := "MissingLamps$Harbour", name := "isLost", desc := "(LMissingLamps$State;I)Z" } : MethodName) ∈ ztb := zs_in2 (q := (⟨"MissingLamps$Harbour", "isLost", "(LMissingLamps$State;I)Z"⟩, 5)) (List.mem_of_getElem? (i := 4) rfl) rfl
theorem zw_71 : Cond.methodLink "MissingLamps$Harbour" (137 : Nat) ({ cls := "MissingLamps$Harbour", name := "isFound", desc := "(LMissingLamps$State;I)Z" } : MethodName) ∈ ztb := zt_in4 (List.mem_of_getElem? (i := 28) rfl) rfl
theorem zw_72 : Cond.instanceMethod ({ cls := "MissingLamps$Harbour", name := "isFound", desc := "(LMissingLamps$State;I)Z" } : MethodName) ∈ ztb := zt_in4 (List.mem_of_getElem? (i := 30) rfl) rfl
theorem zw_73 : Cond.selects "MissingLamps$Harbour" ({ cls := "MissingLamps$Harbour", name := "isFound", desc := "(LMissingLamps$State;I)Z" } : MethodName) ({ cls := "MissingLamps$Harbour", name := "isFound", desc := "(LMissingLamps$State;I)Z" } : MethodName) ∈ ztb := zs_in2 (q := (⟨"MissingLamps$Harbour", "isFound", "(LMissingLamps$State;I)Z"⟩, 5)) (List.mem_of_getElem? (i := 5) rfl) rfl
theorem zw_74 : Cond.fieldLink "MissingLamps$Harbour" (140 : Nat) "MissingLamps$State" "ages" "[I" ∈ ztb := zt_in1 (List.mem_of_getElem? (i := 79) rfl) rfl
theorem zw_75 : Cond.fieldLink "MissingLamps$Harbour" (143 : Nat) "MissingLamps$State" "missing" "I" ∈ ztb := zt_in1 (List.mem_of_getElem? (i := 75) rfl) rfl
theorem zw_76 : Cond.fieldLink "MissingLamps$Harbour" (146 : Nat) "MissingLamps$State" "night" "I" ∈ ztb := zt_in1 (List.mem_of_getElem? (i := 70) rfl) rfl
theorem zw_77 : Cond.methodLink "MissingLamps$Harbour" (149 : Nat) ({ cls := "MissingLamps$Harbour", name := "near", desc := "(LMissingLamps$State;I)I" } : MethodName) ∈ ztb := zt_in4 (List.mem_of_getElem? (i := 32) rfl) rfl
theorem zw_78 : Cond.instanceMethod ({ cls := "MissingLamps$Harbour", name := "near", desc := "(LMissingLamps$State;I)I" } : MethodName) ∈ ztb := zt_in4 (List.mem_of_getElem? (i := 34) rfl) rfl
theorem zw_79 : Cond.selects "MissingLamps$Harbour" ({ cls := "MissingLamps$Harbour", name := "near", desc := "(LMissingLamps$State;I)I" } : MethodName) ({ cls := "MissingLamps$Harbour", name := "near", desc := "(LMissingLamps$State;I)I" } : MethodName) ∈ ztb := zs_in2 (q := (⟨"MissingLamps$Harbour", "near", "(LMissingLamps$State;I)I"⟩, 5)) (List.mem_of_getElem? (i := 6) rfl) rfl
theorem zw_80 : Cond.fieldLink "MissingLamps$Harbour" (152 : Nat) "MissingLamps$Reckoner" "near" "I" ∈ ztb := zt_in1 (List.mem_of_getElem? (i := 177) rfl) rfl
theorem zw_81 : Cond.fieldLink "MissingLamps$Harbour" (154 : Nat) "MissingLamps$Reckoner" "night" "I" ∈ ztb := zt_in1 (List.mem_of_getElem? (i := 167) rfl) rfl
theorem zw_82 : Cond.fieldLink "MissingLamps$Harbour" (155 : Nat) "MissingLamps$Reckoner" "hue" "I" ∈ ztb := zt_in1 (List.mem_of_getElem? (i := 169) rfl) rfl
theorem zw_83 : Cond.fieldLink "MissingLamps$Harbour" (158 : Nat) "MissingLamps$Quay" "thingHighs" "[I" ∈ ztb := zt_in0 (List.mem_of_getElem? (i := 103) rfl) rfl
theorem zw_84 : Cond.fieldLink "MissingLamps$Harbour" (161 : Nat) "MissingLamps$Reckoner" "high" "I" ∈ ztb := zt_in1 (List.mem_of_getElem? (i := 171) rfl) rfl
theorem zw_85 : Cond.fieldLink "MissingLamps$Harbour" (164 : Nat) "MissingLamps$Reckoner" "age" "I" ∈ ztb := zt_in1 (List.mem_of_getElem? (i := 173) rfl) rfl
theorem zw_86 : Cond.methodLink "MissingLamps$Harbour" (167 : Nat) ({ cls := "java/lang/Integer", name := "bitCount", desc := "(I)I" } : MethodName) ∈ ztb := zt_in3 (List.mem_of_getElem? (i := 133) rfl) rfl
theorem zw_87 : Cond.static ({ cls := "java/lang/Integer", name := "bitCount", desc := "(I)I" } : MethodName) ∈ ztb := zt_in3 (List.mem_of_getElem? (i := 107) rfl) rfl
theorem zw_88 : Cond.fieldLink "MissingLamps$Harbour" (173 : Nat) "MissingLamps$Reckoner" "lost" "I" ∈ ztb := zt_in1 (List.mem_of_getElem? (i := 175) rfl) rfl
theorem zw_89 : Cond.fieldLink "MissingLamps$Harbour" (176 : Nat) "MissingLamps$State" "supposedThing" "I" ∈ ztb := zt_in1 (List.mem_of_getElem? (i := 86) rfl) rfl
theorem zw_90 : Cond.fieldLink "MissingLamps$Harbour" (179 : Nat) "MissingLamps$State" "supposedHue" "I" ∈ ztb := zt_in1 (List.mem_of_getElem? (i := 89) rfl) rfl
theorem zw_91 : Cond.fieldLink "MissingLamps$Harbour" (182 : Nat) "MissingLamps$Quay" "thingHues" "[I" ∈ ztb := zt_in0 (List.mem_of_getElem? (i := 99) rfl) rfl
theorem zw_92 : Cond.methodLink "MissingLamps$Harbour" (185 : Nat) ({ cls := "MissingLamps$Harbour", name := "isAtHome", desc := "(LMissingLamps$State;I)Z" } : MethodName) ∈ ztb := zt_in3 (List.mem_of_getElem? (i := 177) rfl) rfl
theorem zw_93 : Cond.instanceMethod ({ cls := "MissingLamps$Harbour", name := "isAtHome", desc := "(LMissingLamps$State;I)Z" } : MethodName) ∈ ztb := zt_in3 (List.mem_of_getElem? (i := 178) rfl) rfl
theorem zw_94 : Cond.selects "MissingLamps$Harbour" ({ cls := "MissingLamps$Harbour", name := "isAtHome", desc := "(LMissingLamps$State;I)Z" } : MethodName) ({ cls := "MissingLamps$Harbour", name := "isAtHome", desc := "(LMissingLamps$State;I)Z" } : MethodName) ∈ ztb := zt_in3 (List.mem_of_getElem? (i := 179) rfl) rfl
theorem zw_95 : Cond.methodLink "MissingLamps$KeptRows" (3 : Nat) ({ cls := "java/lang/Object", name := "<init>", desc := "()V" } : MethodName) ∈ ztb := zt_in1 (List.mem_of_getElem? (i := 109) rfl) rfl
theorem zw_96 : Cond.arrayClass FieldType.int ∈ ztb := zt_in0 (List.mem_of_getElem? (i := 58) rfl) rfl
theorem zw_97 : Cond.fieldLink "MissingLamps$KeptRows" (9 : Nat) "MissingLamps$KeptRows" "nights" "[I" ∈ ztb := zt_in1 (List.mem_of_getElem? (i := 110) rfl) rfl
theorem zw_98 : Cond.fieldLink "MissingLamps$KeptRows" (15 : Nat) "MissingLamps$KeptRows" "things" "[I" ∈ ztb := zt_in1 (List.mem_of_getElem? (i := 112) rfl) rfl
theorem zw_99 : Cond.fieldLink "MissingLamps$KeptRows" (18 : Nat) "MissingLamps$KeptRows" "founds" "[I" ∈ ztb := zt_in1 (List.mem_of_getElem? (i := 114) rfl) rfl
theorem zw_100 : Cond.fieldLink "MissingLamps$KeptRows" (21 : Nat) "MissingLamps$KeptRows" "size" "I" ∈ ztb := zt_in1 (List.mem_of_getElem? (i := 116) rfl) rfl
theorem zw_101 : Cond.methodLink "MissingLamps$KeptRows" (25 : Nat) ({ cls := "java/lang/System", name := "arraycopy", desc := "(Ljava/lang/Object;ILjava/lang/Object;II)V" } : MethodName) ∈ ztb := zt_in4 (List.mem_of_getElem? (i := 183) rfl) rfl
theorem zw_102 : Cond.native ({ cls := "java/lang/System", name := "arraycopy", desc := "(Ljava/lang/Object;ILjava/lang/Object;II)V" } : MethodName) ∈ ztb := zt_in3 (List.mem_of_getElem? (i := 83) rfl) rfl
theorem zw_103 : Cond.static ({ cls := "java/lang/System", name := "arraycopy", desc := "(Ljava/lang/Object;ILjava/lang/Object;II)V" } : MethodName) ∈ ztb := zt_in3 (List.mem_of_getElem? (i := 82) rfl) rfl
theorem zw_104 : Cond.initialized "java/lang/System" ∈ ztb := zt_in0 (List.mem_of_getElem? (i := 19) rfl) rfl
theorem zw_105 : Cond.methodLink "MissingLamps$Past" (3 : Nat) ({ cls := "java/lang/Object", name := "<init>", desc := "()V" } : MethodName) ∈ ztb := zt_in1 (List.mem_of_getElem? (i := 132) rfl) rfl
theorem zw_106 : Cond.classLink "MissingLamps$Past" (9 : Nat) "MissingLamps$State" ∈ ztb := zt_in1 (List.mem_of_getElem? (i := 133) rfl) rfl
theorem zw_107 : Cond.fieldLink "MissingLamps$Past" (11 : Nat) "MissingLamps$Past" "states" "[LMissingLamps$State;" ∈ ztb := zt_in1 (List.mem_of_getElem? (i := 139) rfl) rfl
theorem zw_108 : Cond.classLink "MissingLamps$Past" (17 : Nat) "MissingLamps$KeptRows" ∈ ztb := zt_in1 (List.mem_of_getElem? (i := 135) rfl) rfl
theorem zw_109 : Cond.fieldLink "MissingLamps$Past" (19 : Nat) "MissingLamps$Past" "rows" "[LMissingLamps$KeptRows;" ∈ ztb := zt_in1 (List.mem_of_getElem? (i := 140) rfl) rfl
theorem zw_110 : Cond.instantiable "MissingLamps$State" (6 : Nat) ∈ ztb := zt_in1 (List.mem_of_getElem? (i := 61) rfl) rfl
theorem zw_111 : Cond.initialized "MissingLamps$State" ∈ ztb := zt_in0 (List.mem_of_getElem? (i := 11) rfl) rfl
theorem zw_112 : Cond.instanceMethod ({ cls := "MissingLamps$State", name := "<init>", desc := "()V" } : MethodName) ∈ ztb := zt_in1 (List.mem_of_getElem? (i := 63) rfl) rfl
theorem zw_113 : Cond.instantiable "MissingLamps$KeptRows" (4 : Nat) ∈ ztb := zt_in1 (List.mem_of_getElem? (i := 105) rfl) rfl
theorem zw_114 : Cond.initialized "MissingLamps$KeptRows" ∈ ztb := zt_in0 (List.mem_of_getElem? (i := 12) rfl) rfl
theorem zw_115 : Cond.instanceMethod ({ cls := "MissingLamps$KeptRows", name := "<init>", desc := "()V" } : MethodName) ∈ ztb := zt_in1 (List.mem_of_getElem? (i := 107) rfl) rfl
theorem zw_116 : Cond.fieldLink "MissingLamps$Past" (25 : Nat) "MissingLamps$Past" "next" "I" ∈ ztb := zt_in1 (List.mem_of_getElem? (i := 141) rfl) rfl
theorem zw_117 : Cond.methodLink "MissingLamps$Past" (29 : Nat) ({ cls := "MissingLamps$State", name := "copyFrom", desc := "(LMissingLamps$State;)V" } : MethodName) ∈ ztb := zt_in4 (List.mem_of_getElem? (i := 178) rfl) rfl
theorem zw_118 : Cond.instanceMethod ({ cls := "MissingLamps$State", name := "copyFrom", desc := "(LMissingLamps$State;)V" } : MethodName) ∈ ztb := zt_in4 (List.mem_of_getElem? (i := 3) rfl) rfl
theorem zw_119 : Cond.selects "MissingLamps$State" ({ cls := "MissingLamps$State", name := "copyFrom", desc := "(LMissingLamps$State;)V" } : MethodName) ({ cls := "MissingLamps$State", name := "copyFrom", desc := "(LMissingLamps$State;)V" } : MethodName) ∈ ztb := zt_in4 (List.mem_of_getElem? (i := 4) rfl) rfl
theorem zw_120 : Cond.methodLink "MissingLamps$Past" (33 : Nat) ({ cls := "MissingLamps$KeptRows", name := "copyFrom", desc := "(LMissingLamps$KeptRows;)V" } : MethodName) ∈ ztb := zt_in4 (List.mem_of_getElem? (i := 179) rfl) rfl
theorem zw_121 : Cond.instanceMethod ({ cls := "MissingLamps$KeptRows", name := "copyFrom", desc := "(LMissingLamps$KeptRows;)V" } : MethodName) ∈ ztb := zt_in4 (List.mem_of_getElem? (i := 180) rfl) rfl
theorem zw_122 : Cond.selects "MissingLamps$KeptRows" ({ cls := "MissingLamps$KeptRows", name := "copyFrom", desc := "(LMissingLamps$KeptRows;)V" } : MethodName) ({ cls := "MissingLamps$KeptRows", name := "copyFrom", desc := "(LMissingLamps$KeptRows;)V" } : MethodName) ∈ ztb := zt_in4 (List.mem_of_getElem? (i := 181) rfl) rfl
theorem zw_123 : Cond.fieldLink "MissingLamps$Past" (36 : Nat) "MissingLamps$Past" "size" "I" ∈ ztb := zt_in1 (List.mem_of_getElem? (i := 142) rfl) rfl
theorem zw_124 : Cond.methodLink "MissingLamps$Past" (39 : Nat) ({ cls := "java/lang/Math", name := "min", desc := "(II)I" } : MethodName) ∈ ztb := zt_in4 (List.mem_of_getElem? (i := 184) rfl) rfl
theorem zw_125 : Cond.methodLink "MissingLamps$Planner" (3 : Nat) ({ cls := "java/lang/Object", name := "<init>", desc := "()V" } : MethodName) ∈ ztb := zt_in1 (List.mem_of_getElem? (i := 218) rfl) rfl
theorem zw_126 : Cond.classLink "MissingLamps$Planner" (9 : Nat) "MissingLamps$State" ∈ ztb := zt_in1 (List.mem_of_getElem? (i := 219) rfl) rfl
theorem zw_127 : Cond.fieldLink "MissingLamps$Planner" (11 : Nat) "MissingLamps$Planner" "trials" "[LMissingLamps$State;" ∈ ztb := zt_in1 (List.mem_of_getElem? (i := 222) rfl) rfl
theorem zw_128 : Cond.fieldLink "MissingLamps$Planner" (17 : Nat) "MissingLamps$Planner" "lights" "[J" ∈ ztb := zt_in1 (List.mem_of_getElem? (i := 223) rfl) rfl
theorem zw_129 : Cond.fieldLink "MissingLamps$Planner" (21 : Nat) "MissingLamps$Planner" "steps" "[I" ∈ ztb := zt_in1 (List.mem_of_getElem? (i := 224) rfl) rfl
theorem zw_130 : Cond.fieldLink "MissingLamps$Planner" (25 : Nat) "MissingLamps$Planner" "worths" "[I" ∈ ztb := zt_in1 (List.mem_of_getElem? (i := 225) rfl) rfl
theorem zw_131 : Cond.fieldLink "MissingLamps$Planner" (28 : Nat) "MissingLamps$Planner" "sentThings" "[I" ∈ ztb := zt_in1 (List.mem_of_getElem? (i := 226) rfl) rfl
theorem zw_132 : Cond.fieldLink "MissingLamps$Planner" (31 : Nat) "MissingLamps$Planner" "met" "[I" ∈ ztb := zt_in1 (List.mem_of_getElem? (i := 232) rfl) rfl
theorem zw_133 : Cond.fieldLink "MissingLamps$Planner" (34 : Nat) "MissingLamps$Planner" "harbour" "LMissingLamps$Harbour;" ∈ ztb := zt_in1 (List.mem_of_getElem? (i := 221) rfl) rfl
theorem zw_134 : Cond.methodLink "MissingLamps$Planner" (39 : Nat) ({ cls := "MissingLamps$State", name := "copyFrom", desc := "(LMissingLamps$State;)V" } : MethodName) ∈ ztb := zt_in4 (List.mem_of_getElem? (i := 2) rfl) rfl
theorem zw_135 : Cond.methodLink "MissingLamps$Planner" (43 : Nat) ({ cls := "MissingLamps$Harbour", name := "pass", desc := "(LMissingLamps$State;II)V" } : MethodName) ∈ ztb := zt_in4 (List.mem_of_getElem? (i := 7) rfl) rfl
theorem zw_136 : Cond.instanceMethod ({ cls := "MissingLamps$Harbour", name := "pass", desc := "(LMissingLamps$State;II)V" } : MethodName) ∈ ztb := zt_in4 (List.mem_of_getElem? (i := 8) rfl) rfl
theorem zw_137 : Cond.selects "MissingLamps$Harbour" ({ cls := "MissingLamps$Harbour", name := "pass", desc := "(LMissingLamps$State;II)V" } : MethodName) ({ cls := "MissingLamps$Harbour", name := "pass", desc := "(LMissingLamps$State;II)V" } : MethodName) ∈ ztb := zt_in4 (List.mem_of_getElem? (i := 9) rfl) rfl
theorem zw_138 : Cond.fieldLink "MissingLamps$Planner" (49 : Nat) "MissingLamps$State" "night" "I" ∈ ztb := zt_in1 (List.mem_of_getElem? (i := 68) rfl) rfl
theorem zw_139 : Cond.methodLink "MissingLamps$Planner" (53 : Nat) ({ cls := "java/lang/Math", name := "min", desc := "(II)I" } : MethodName) ∈ ztb := zt_in4 (List.mem_of_getElem? (i := 44) rfl) rfl
theorem zw_140 : Cond.methodLink "MissingLamps$Planner" (59 : Nat) ({ cls := "MissingLamps$Harbour", name := "isAtHome", desc := "(LMissingLamps$State;I)Z" } : MethodName) ∈ ztb := zt_in4 (List.mem_of_getElem? (i := 45) rfl) rfl
theorem zw_141 : Cond.fieldLink "MissingLamps$Planner" (63 : Nat) "MissingLamps$Harbour" "plan" "LMissingLamps$Quay;" ∈ ztb := zt_in1 (List.mem_of_getElem? (i := 194) rfl) rfl
theorem zw_142 : Cond.fieldLink "MissingLamps$Planner" (67 : Nat) "MissingLamps$Quay" "things" "I" ∈ ztb := zt_in0 (List.mem_of_getElem? (i := 85) rfl) rfl
theorem zw_143 : Cond.fieldLink "MissingLamps$Planner" (72 : Nat) "MissingLamps$State" "missing" "I" ∈ ztb := zt_in1 (List.mem_of_getElem? (i := 73) rfl) rfl
theorem zw_144 : Cond.methodLink "MissingLamps$Planner" (75 : Nat) ({ cls := "java/lang/Integer", name := "bitCount", desc := "(I)I" } : MethodName) ∈ ztb := zt_in4 (List.mem_of_getElem? (i := 58) rfl) rfl
theorem zw_145 : Cond.methodLink "MissingLamps$Planner" (81 : Nat) ({ cls := "MissingLamps$Planner", name := "turnAll", desc := "(LMissingLamps$State;I)V" } : MethodName) ∈ ztb := zt_in4 (List.mem_of_getElem? (i := 59) rfl) rfl
theorem zw_146 : Cond.static ({ cls := "MissingLamps$Planner", name := "turnAll", desc := "(LMissingLamps$State;I)V" } : MethodName) ∈ ztb := zt_in4 (List.mem_of_getElem? (i := 60) rfl) rfl
theorem zw_147 : Cond.methodLink "MissingLamps$Planner" (85 : Nat) ({ cls := "MissingLamps$State", name := "turn", desc := "(I)V" } : MethodName) ∈ ztb := zt_in4 (List.mem_of_getElem? (i := 62) rfl) rfl
theorem zw_148 : Cond.instanceMethod ({ cls := "MissingLamps$State", name := "turn", desc := "(I)V" } : MethodName) ∈ ztb := zt_in4 (List.mem_of_getElem? (i := 63) rfl) rfl
theorem zw_149 : Cond.selects "MissingLamps$State" ({ cls := "MissingLamps$State", name := "turn", desc := "(I)V" } : MethodName) ({ cls := "MissingLamps$State", name := "turn", desc := "(I)V" } : MethodName) ∈ ztb := zt_in4 (List.mem_of_getElem? (i := 64) rfl) rfl
theorem zw_150 : Cond.methodLink "MissingLamps$Planner" (89 : Nat) ({ cls := "MissingLamps$State", name := "isMissing", desc := "(I)Z" } : MethodName) ∈ ztb := zt_in4 (List.mem_of_getElem? (i := 74) rfl) rfl
theorem zw_151 : Cond.methodLink "MissingLamps$Planner" (93 : Nat) ({ cls := "MissingLamps$Harbour", name := "countAtHome", desc := "(LMissingLamps$State;)I" } : MethodName) ∈ ztb := zt_in4 (List.mem_of_getElem? (i := 75) rfl) rfl
theorem zw_152 : Cond.instanceMethod ({ cls := "MissingLamps$Harbour", name := "countAtHome", desc := "(LMissingLamps$State;)I" } : MethodName) ∈ ztb := zt_in3 (List.mem_of_getElem? (i := 174) rfl) rfl
theorem zw_153 : Cond.selects "MissingLamps$Harbour" ({ cls := "MissingLamps$Harbour", name := "countAtHome", desc := "(LMissingLamps$State;)I" } : MethodName) ({ cls := "MissingLamps$Harbour", name := "countAtHome", desc := "(LMissingLamps$State;)I" } : MethodName) ∈ ztb := zt_in3 (List.mem_of_getElem? (i := 175) rfl) rfl
theorem zw_154 : Cond.fieldLink "MissingLamps$Planner" (97 : Nat) "MissingLamps$Quay" "thingPlaces" "[I" ∈ ztb := zt_in0 (List.mem_of_getElem? (i := 93) rfl) rfl
theorem zw_155 : Cond.methodLink "MissingLamps$Planner" (100 : Nat) ({ cls := "MissingLamps$Harbour", name := "glow", desc := "(LMissingLamps$State;I)I" } : MethodName) ∈ ztb := zt_in4 (List.mem_of_getElem? (i := 84) rfl) rfl
theorem zw_156 : Cond.methodLink "MissingLamps$Planner" (104 : Nat) ({ cls := "MissingLamps$Harbour", name := "light", desc := "(II)J" } : MethodName) ∈ ztb := zt_in4 (List.mem_of_getElem? (i := 85) rfl) rfl
theorem zw_157 : Cond.methodLink "MissingLamps$Planner" (108 : Nat) ({ cls := "MissingLamps$Planner", name := "lightOf", desc := "(I)J" } : MethodName) ∈ ztb := zt_in4 (List.mem_of_getElem? (i := 86) rfl) rfl
theorem zw_158 : Cond.instanceMethod ({ cls := "MissingLamps$Planner", name := "lightOf", desc := "(I)J" } : MethodName) ∈ ztb := zt_in4 (List.mem_of_getElem? (i := 88) rfl) rfl
theorem zw_159 : Cond.selects "MissingLamps$Planner" ({ cls := "MissingLamps$Planner", name := "lightOf", desc := "(I)J" } : MethodName) ({ cls := "MissingLamps$Planner", name := "lightOf", desc := "(I)J" } : MethodName) ∈ ztb := zs_in2 (q := (⟨"MissingLamps$Planner", "lightOf", "(I)J"⟩, 13)) (List.mem_of_getElem? (i := 7) rfl) rfl
theorem zw_160 : Cond.methodLink "MissingLamps$Planner" (112 : Nat) ({ cls := "MissingLamps$Planner", name := "measure", desc := "(LMissingLamps$State;)V" } : MethodName) ∈ ztb := zt_in4 (List.mem_of_getElem? (i := 98) rfl) rfl
theorem zw_161 : Cond.instanceMethod ({ cls := "MissingLamps$Planner", name := "measure", desc := "(LMissingLamps$State;)V" } : MethodName) ∈ ztb := zt_in4 (List.mem_of_getElem? (i := 100) rfl) rfl
theorem zw_162 : Cond.selects "MissingLamps$Planner" ({ cls := "MissingLamps$Planner", name := "measure", desc := "(LMissingLamps$State;)V" } : MethodName) ({ cls := "MissingLamps$Planner", name := "measure", desc := "(LMissingLamps$State;)V" } : MethodName) ∈ ztb := zs_in2 (q := (⟨"MissingLamps$Planner", "measure", "(LMissingLamps$State;)V"⟩, 13)) (List.mem_of_getElem? (i := 8) rfl) rfl
theorem zw_163 : Cond.methodLink "MissingLamps$Planner" (115 : Nat) ({ cls := "MissingLamps$Planner", name := "weigh", desc := "(I)V" } : MethodName) ∈ ztb := zt_in4 (List.mem_of_getElem? (i := 104) rfl) rfl
theorem zw_164 : Cond.instanceMethod ({ cls := "MissingLamps$Planner", name := "weigh", desc := "(I)V" } : MethodName) ∈ ztb := zt_in4 (List.mem_of_getElem? (i := 106) rfl) rfl
theorem zw_165 : Cond.selects "MissingLamps$Planner" ({ cls := "MissingLamps$Planner", name := "weigh", desc := "(I)V" } : MethodName) ({ cls := "MissingLamps$Planner", name := "weigh", desc := "(I)V" } : MethodName) ∈ ztb := zs_in2 (q := (⟨"MissingLamps$Planner", "weigh", "(I)V"⟩, 13)) (List.mem_of_getElem? (i := 9) rfl) rfl
theorem zw_166 : Cond.fieldLink "MissingLamps$Planner" (118 : Nat) "MissingLamps$Planner" "sentCount" "I" ∈ ztb := zt_in1 (List.mem_of_getElem? (i := 228) rfl) rfl
theorem zw_167 : Cond.fieldLink "MissingLamps$Planner" (121 : Nat) "MissingLamps$Planner" "sentSteps" "I" ∈ ztb := zt_in1 (List.mem_of_getElem? (i := 230) rfl) rfl
theorem zw_168 : Cond.fieldLink "MissingLamps$Planner" (124 : Nat) "MissingLamps$Quay" "folk" "I" ∈ ztb := zt_in0 (List.mem_of_getElem? (i := 109) rfl) rfl
theorem zw_169 : Cond.methodLink "MissingLamps$Planner" (127 : Nat) ({ cls := "MissingLamps$Planner", name := "firstBest", desc := "(II)I" } : MethodName) ∈ ztb := zt_in4 (List.mem_of_getElem? (i := 113) rfl) rfl
theorem zw_170 : Cond.instanceMethod ({ cls := "MissingLamps$Planner", name := "firstBest", desc := "(II)I" } : MethodName) ∈ ztb := zt_in4 (List.mem_of_getElem? (i := 115) rfl) rfl
theorem zw_171 : Cond.selects "MissingLamps$Planner" ({ cls := "MissingLamps$Planner", name := "firstBest", desc := "(II)I" } : MethodName) ({ cls := "MissingLamps$Planner", name := "firstBest", desc := "(II)I" } : MethodName) ∈ ztb := zs_in2 (q := (⟨"MissingLamps$Planner", "firstBest", "(II)I"⟩, 13)) (List.mem_of_getElem? (i := 11) rfl) rfl
theorem zw_172 : Cond.fieldLink "MissingLamps$Planner" (130 : Nat) "MissingLamps$Quay" "ground" "J" ∈ ztb := zt_in0 (List.mem_of_getElem? (i := 77) rfl) rfl
theorem zw_173 : Cond.fieldLink "MissingLamps$Planner" (134 : Nat) "MissingLamps$Quay" "walls" "J" ∈ ztb := zt_in0 (List.mem_of_getElem? (i := 82) rfl) rfl
theorem zw_174 : Cond.constantLong "MissingLamps$Planner" (137 : Nat) (-1 : Int64) ∈ ztb := zt_in4 (List.mem_of_getElem? (i := 102) rfl) rfl
theorem zw_175 : Cond.fieldLink "MissingLamps$Planner" (139 : Nat) "MissingLamps$State" "places" "[I" ∈ ztb := zt_in1 (List.mem_of_getElem? (i := 84) rfl) rfl
theorem zw_176 : Cond.methodLink "MissingLamps$Planner" (142 : Nat) ({ cls := "MissingLamps$Harbour", name := "road", desc := "(IIJ)I" } : MethodName) ∈ ztb := zt_in4 (List.mem_of_getElem? (i := 103) rfl) rfl
theorem zw_177 : Cond.methodLink "MissingLamps$Planner" (146 : Nat) ({ cls := "MissingLamps$Planner", name := "worthWith", desc := "(III)I" } : MethodName) ∈ ztb := zt_in4 (List.mem_of_getElem? (i := 108) rfl) rfl
theorem zw_178 : Cond.instanceMethod ({ cls := "MissingLamps$Planner", name := "worthWith", desc := "(III)I" } : MethodName) ∈ ztb := zt_in4 (List.mem_of_getElem? (i := 110) rfl) rfl
theorem zw_179 : Cond.selects "MissingLamps$Planner" ({ cls := "MissingLamps$Planner", name := "worthWith", desc := "(III)I" } : MethodName) ({ cls := "MissingLamps$Planner", name := "worthWith", desc := "(III)I" } : MethodName) ∈ ztb := zs_in2 (q := (⟨"MissingLamps$Planner", "worthWith", "(III)I"⟩, 13)) (List.mem_of_getElem? (i := 10) rfl) rfl
theorem zw_180 : Cond.methodLink "MissingLamps$Planner" (150 : Nat) ({ cls := "java/lang/Math", name := "max", desc := "(II)I" } : MethodName) ∈ ztb := zt_in4 (List.mem_of_getElem? (i := 112) rfl) rfl
theorem zw_181 : Cond.fieldLink "MissingLamps$Planner" (153 : Nat) "MissingLamps$Quay" "homes" "[I" ∈ ztb := zt_in0 (List.mem_of_getElem? (i := 120) rfl) rfl
theorem zw_182 : Cond.methodLink "MissingLamps$Planner" (156 : Nat) ({ cls := "MissingLamps$Harbour", name := "lit", desc := "(LMissingLamps$State;I)J" } : MethodName) ∈ ztb := zt_in4 (List.mem_of_getElem? (i := 125) rfl) rfl
theorem zw_183 : Cond.methodLink "MissingLamps$Planner" (160 : Nat) ({ cls := "MissingLamps$Harbour", name := "walked", desc := "(IIJ)I" } : MethodName) ∈ ztb := zt_in4 (List.mem_of_getElem? (i := 126) rfl) rfl
theorem zw_184 : Cond.fieldLink "MissingLamps$Planner" (163 : Nat) "MissingLamps$Quay" "gale" "I" ∈ ztb := zt_in0 (List.mem_of_getElem? (i := 73) rfl) rfl
theorem zw_185 : Cond.fieldLink "MissingLamps$Planner" (166 : Nat) "MissingLamps$Planner" "metCount" "I" ∈ ztb := zt_in1 (List.mem_of_getElem? (i := 234) rfl) rfl
theorem zw_186 : Cond.methodLink "MissingLamps$Planner" (169 : Nat) ({ cls := "MissingLamps$Quay", name := "hasCell", desc := "(II)Z" } : MethodName) ∈ ztb := zt_in4 (List.mem_of_getElem? (i := 135) rfl) rfl
theorem zw_187 : Cond.instanceMethod ({ cls := "MissingLamps$Quay", name := "hasCell", desc := "(II)Z" } : MethodName) ∈ ztb := zt_in3 (List.mem_of_getElem? (i := 201) rfl) rfl
theorem zw_188 : Cond.selects "MissingLamps$Quay" ({ cls := "MissingLamps$Quay", name := "hasCell", desc := "(II)Z" } : MethodName) ({ cls := "MissingLamps$Quay", name := "hasCell", desc := "(II)Z" } : MethodName) ∈ ztb := zt_in3 (List.mem_of_getElem? (i := 202) rfl) rfl
theorem zw_189 : Cond.methodLink "MissingLamps$Planner" (173 : Nat) ({ cls := "java/lang/System", name := "arraycopy", desc := "(Ljava/lang/Object;ILjava/lang/Object;II)V" } : MethodName) ∈ ztb := zt_in4 (List.mem_of_getElem? (i := 136) rfl) rfl
theorem zw_190 : Cond.methodLink "MissingLamps$Planner" (179 : Nat) ({ cls := "MissingLamps$Planner", name := "lastMetNight", desc := "()I" } : MethodName) ∈ ztb := zt_in4 (List.mem_of_getElem? (i := 145) rfl) rfl
theorem zw_191 : Cond.instanceMethod ({ cls := "MissingLamps$Planner", name := "lastMetNight", desc := "()I" } : MethodName) ∈ ztb := zt_in4 (List.mem_of_getElem? (i := 147) rfl) rfl
theorem zw_192 : Cond.selects "MissingLamps$Planner" ({ cls := "MissingLamps$Planner", name := "lastMetNight", desc := "()I" } : MethodName) ({ cls := "MissingLamps$Planner", name := "lastMetNight", desc := "()I" } : MethodName) ∈ ztb := zs_in2 (q := (⟨"MissingLamps$Planner", "lastMetNight", "()I"⟩, 13)) (List.mem_of_getElem? (i := 12) rfl) rfl
theorem zw_193 : Cond.fieldLink "MissingLamps$Planner" (183 : Nat) "MissingLamps$State" "supposedThing" "I" ∈ ztb := zt_in1 (List.mem_of_getElem? (i := 87) rfl) rfl
theorem zw_194 : Cond.fieldLink "MissingLamps$Planner" (186 : Nat) "MissingLamps$State" "supposedHue" "I" ∈ ztb := zt_in1 (List.mem_of_getElem? (i := 90) rfl) rfl
theorem zw_195 : Cond.methodLink "MissingLamps$Planner" (189 : Nat) ({ cls := "MissingLamps$Planner", name := "fitsMet", desc := "(LMissingLamps$State;I)Z" } : MethodName) ∈ ztb := zt_in4 (List.mem_of_getElem? (i := 149) rfl) rfl
theorem zw_196 : Cond.instanceMethod ({ cls := "MissingLamps$Planner", name := "fitsMet", desc := "(LMissingLamps$State;I)Z" } : MethodName) ∈ ztb := zt_in4 (List.mem_of_getElem? (i := 151) rfl) rfl
theorem zw_197 : Cond.selects "MissingLamps$Planner" ({ cls := "MissingLamps$Planner", name := "fitsMet", desc := "(LMissingLamps$State;I)Z" } : MethodName) ({ cls := "MissingLamps$Planner", name := "fitsMet", desc := "(LMissingLamps$State;I)Z" } : MethodName) ∈ ztb := zs_in2 (q := (⟨"MissingLamps$Planner", "fitsMet", "(LMissingLamps$State;I)Z"⟩, 13)) (List.mem_of_getElem? (i := 13) rfl) rfl
theorem zw_198 : Cond.static ({ cls := "MissingLamps", name := "placeOf", desc := "(II)I" } : MethodName) ∈ ztb := zt_in2 (List.mem_of_getElem? (i := 197) rfl) rfl
theorem zw_199 : Cond.fieldLink "MissingLamps$Planner" (195 : Nat) "MissingLamps$Planner" "tellingNights" "I" ∈ ztb := zt_in1 (List.mem_of_getElem? (i := 235) rfl) rfl
theorem zw_200 : Cond.fieldLink "MissingLamps$Planner" (198 : Nat) "MissingLamps$Planner" "tellingFolk" "I" ∈ ztb := zt_in1 (List.mem_of_getElem? (i := 237) rfl) rfl
theorem zw_201 : Cond.fieldLink "MissingLamps$Planner" (201 : Nat) "MissingLamps$Planner" "tellingLeft" "I" ∈ ztb := zt_in1 (List.mem_of_getElem? (i := 239) rfl) rfl
theorem zw_202 : Cond.methodLink "MissingLamps$Planner" (204 : Nat) ({ cls := "MissingLamps$Planner", name := "supposeAll", desc := "(LMissingLamps$State;II)I" } : MethodName) ∈ ztb := zt_in4 (List.mem_of_getElem? (i := 162) rfl) rfl
theorem zw_203 : Cond.instanceMethod ({ cls := "MissingLamps$Planner", name := "supposeAll", desc := "(LMissingLamps$State;II)I" } : MethodName) ∈ ztb := zt_in4 (List.mem_of_getElem? (i := 164) rfl) rfl
theorem zw_204 : Cond.selects "MissingLamps$Planner" ({ cls := "MissingLamps$Planner", name := "supposeAll", desc := "(LMissingLamps$State;II)I" } : MethodName) ({ cls := "MissingLamps$Planner", name := "supposeAll", desc := "(LMissingLamps$State;II)I" } : MethodName) ∈ ztb := zs_in2 (q := (⟨"MissingLamps$Planner", "supposeAll", "(LMissingLamps$State;II)I"⟩, 13)) (List.mem_of_getElem? (i := 14) rfl) rfl
theorem zw_205 : Cond.methodLink "MissingLamps$Planner" (208 : Nat) ({ cls := "MissingLamps$Planner", name := "mostAlike", desc := "(II)I" } : MethodName) ∈ ztb := zt_in4 (List.mem_of_getElem? (i := 166) rfl) rfl
theorem zw_206 : Cond.instanceMethod ({ cls := "MissingLamps$Planner", name := "mostAlike", desc := "(II)I" } : MethodName) ∈ ztb := zt_in4 (List.mem_of_getElem? (i := 168) rfl) rfl
theorem zw_207 : Cond.selects "MissingLamps$Planner" ({ cls := "MissingLamps$Planner", name := "mostAlike", desc := "(II)I" } : MethodName) ({ cls := "MissingLamps$Planner", name := "mostAlike", desc := "(II)I" } : MethodName) ∈ ztb := zs_in2 (q := (⟨"MissingLamps$Planner", "mostAlike", "(II)I"⟩, 13)) (List.mem_of_getElem? (i := 15) rfl) rfl
theorem zw_208 : Cond.methodLink "MissingLamps$Quay" (3 : Nat) ({ cls := "java/lang/Object", name := "<init>", desc := "()V" } : MethodName) ∈ ztb := zt_in0 (List.mem_of_getElem? (i := 35) rfl) rfl
theorem zw_209 : Cond.fieldLink "MissingLamps$Quay" (9 : Nat) "MissingLamps$Quay" "thingNames" "[I" ∈ ztb := zt_in0 (List.mem_of_getElem? (i := 88) rfl) rfl
theorem zw_210 : Cond.fieldLink "MissingLamps$Quay" (15 : Nat) "MissingLamps$Quay" "thingPlaces" "[I" ∈ ztb := zt_in0 (List.mem_of_getElem? (i := 91) rfl) rfl
theorem zw_211 : Cond.fieldLink "MissingLamps$Quay" (18 : Nat) "MissingLamps$Quay" "thingHues" "[I" ∈ ztb := zt_in0 (List.mem_of_getElem? (i := 96) rfl) rfl
theorem zw_212 : Cond.fieldLink "MissingLamps$Quay" (21 : Nat) "MissingLamps$Quay" "thingHighs" "[I" ∈ ztb := zt_in0 (List.mem_of_getElem? (i := 100) rfl) rfl
theorem zw_213 : Cond.fieldLink "MissingLamps$Quay" (24 : Nat) "MissingLamps$Quay" "folkNames" "[I" ∈ ztb := zt_in0 (List.mem_of_getElem? (i := 111) rfl) rfl
theorem zw_214 : Cond.fieldLink "MissingLamps$Quay" (27 : Nat) "MissingLamps$Quay" "starts" "[I" ∈ ztb := zt_in0 (List.mem_of_getElem? (i := 114) rfl) rfl
theorem zw_215 : Cond.fieldLink "MissingLamps$Quay" (30 : Nat) "MissingLamps$Quay" "homes" "[I" ∈ ztb := zt_in0 (List.mem_of_getElem? (i := 116) rfl) rfl
theorem zw_216 : Cond.classLink "MissingLamps$Quay" (33 : Nat) "MissingLamps$Rules" ∈ ztb := zt_in0 (List.mem_of_getElem? (i := 36) rfl) rfl
theorem zw_217 : Cond.instantiable "MissingLamps$Rules" (4 : Nat) ∈ ztb := zt_in0 (List.mem_of_getElem? (i := 37) rfl) rfl
theorem zw_218 : Cond.initialized "MissingLamps$Rules" ∈ ztb := zt_in0 (List.mem_of_getElem? (i := 3) rfl) rfl
theorem zw_219 : Cond.instanceMethod ({ cls := "MissingLamps$Rules", name := "<init>", desc := "()V" } : MethodName) ∈ ztb := zt_in0 (List.mem_of_getElem? (i := 39) rfl) rfl
theorem zw_220 : Cond.fieldLink "MissingLamps$Quay" (36 : Nat) "MissingLamps$Quay" "rules" "LMissingLamps$Rules;" ∈ ztb := zt_in0 (List.mem_of_getElem? (i := 122) rfl) rfl
theorem zw_221 : Cond.fieldLink "MissingLamps$Quay" (40 : Nat) "MissingLamps$Quay" "statements" "I" ∈ ztb := zt_in0 (List.mem_of_getElem? (i := 59) rfl) rfl
theorem zw_222 : Cond.fieldLink "MissingLamps$Quay" (44 : Nat) "MissingLamps$Quay" "columns" "I" ∈ ztb := zt_in0 (List.mem_of_getElem? (i := 62) rfl) rfl
theorem zw_223 : Cond.fieldLink "MissingLamps$Quay" (47 : Nat) "MissingLamps$Quay" "rows" "I" ∈ ztb := zt_in0 (List.mem_of_getElem? (i := 65) rfl) rfl
theorem zw_224 : Cond.fieldLink "MissingLamps$Quay" (50 : Nat) "MissingLamps$Quay" "pace" "I" ∈ ztb := zt_in0 (List.mem_of_getElem? (i := 68) rfl) rfl
theorem zw_225 : Cond.fieldLink "MissingLamps$Quay" (53 : Nat) "MissingLamps$Quay" "gale" "I" ∈ ztb := zt_in0 (List.mem_of_getElem? (i := 71) rfl) rfl
theorem zw_226 : Cond.fieldLink "MissingLamps$Quay" (56 : Nat) "MissingLamps$Quay" "ground" "J" ∈ ztb := zt_in0 (List.mem_of_getElem? (i := 75) rfl) rfl
theorem zw_227 : Cond.fieldLink "MissingLamps$Quay" (60 : Nat) "MissingLamps$Quay" "walls" "J" ∈ ztb := zt_in0 (List.mem_of_getElem? (i := 78) rfl) rfl
theorem zw_228 : Cond.fieldLink "MissingLamps$Quay" (63 : Nat) "MissingLamps$Quay" "things" "I" ∈ ztb := zt_in0 (List.mem_of_getElem? (i := 83) rfl) rfl
theorem zw_229 : Cond.fieldLink "MissingLamps$Quay" (66 : Nat) "MissingLamps$Quay" "missingFirst" "I" ∈ ztb := zt_in0 (List.mem_of_getElem? (i := 104) rfl) rfl
theorem zw_230 : Cond.fieldLink "MissingLamps$Quay" (69 : Nat) "MissingLamps$Quay" "folk" "I" ∈ ztb := zt_in0 (List.mem_of_getElem? (i := 106) rfl) rfl
theorem zw_231 : Cond.methodLink "MissingLamps$Quay" (72 : Nat) ({ cls := "MissingLamps$Rules", name := "clear", desc := "()V" } : MethodName) ∈ ztb := zt_in2 (List.mem_of_getElem? (i := 113) rfl) rfl
theorem zw_232 : Cond.instanceMethod ({ cls := "MissingLamps$Rules", name := "clear", desc := "()V" } : MethodName) ∈ ztb := zt_in2 (List.mem_of_getElem? (i := 114) rfl) rfl
theorem zw_233 : Cond.selects "MissingLamps$Rules" ({ cls := "MissingLamps$Rules", name := "clear", desc := "()V" } : MethodName) ({ cls := "MissingLamps$Rules", name := "clear", desc := "()V" } : MethodName) ∈ ztb := zt_in2 (List.mem_of_getElem? (i := 115) rfl) rfl
theorem zw_234 : Cond.fieldLink "MissingLamps$Quay" (75 : Nat) "MissingLamps$State" "night" "I" ∈ ztb := zt_in1 (List.mem_of_getElem? (i := 67) rfl) rfl
theorem zw_235 : Cond.fieldLink "MissingLamps$Quay" (80 : Nat) "MissingLamps$State" "missing" "I" ∈ ztb := zt_in1 (List.mem_of_getElem? (i := 72) rfl) rfl
theorem zw_236 : Cond.fieldLink "MissingLamps$Quay" (83 : Nat) "MissingLamps$State" "ages" "[I" ∈ ztb := zt_in1 (List.mem_of_getElem? (i := 77) rfl) rfl
theorem zw_237 : Cond.fieldLink "MissingLamps$Quay" (86 : Nat) "MissingLamps$State" "places" "[I" ∈ ztb := zt_in1 (List.mem_of_getElem? (i := 82) rfl) rfl
theorem zw_238 : Cond.methodLink "MissingLamps$Quay" (89 : Nat) ({ cls := "java/lang/System", name := "arraycopy", desc := "(Ljava/lang/Object;ILjava/lang/Object;II)V" } : MethodName) ∈ ztb := zt_in3 (List.mem_of_getElem? (i := 81) rfl) rfl
theorem zw_239 : Cond.methodLink "MissingLamps$Quay" (95 : Nat) ({ cls := "MissingLamps$Quay", name := "hasCell", desc := "(II)Z" } : MethodName) ∈ ztb := zt_in4 (List.mem_of_getElem? (i := 230) rfl) rfl
theorem zw_240 : Cond.methodLink "MissingLamps$Quay" (107 : Nat) ({ cls := "MissingLamps$Quay", name := "thingNamed", desc := "(I)I" } : MethodName) ∈ ztb := zt_in2 (List.mem_of_getElem? (i := 217) rfl) rfl
theorem zw_241 : Cond.instanceMethod ({ cls := "MissingLamps$Quay", name := "thingNamed", desc := "(I)I" } : MethodName) ∈ ztb := zt_in2 (List.mem_of_getElem? (i := 218) rfl) rfl
theorem zw_242 : Cond.selects "MissingLamps$Quay" ({ cls := "MissingLamps$Quay", name := "thingNamed", desc := "(I)I" } : MethodName) ({ cls := "MissingLamps$Quay", name := "thingNamed", desc := "(I)I" } : MethodName) ∈ ztb := zt_in2 (List.mem_of_getElem? (i := 219) rfl) rfl
theorem zw_243 : Cond.methodLink "MissingLamps$Reader" (3 : Nat) ({ cls := "java/lang/Object", name := "<init>", desc := "()V" } : MethodName) ∈ ztb := zt_in0 (List.mem_of_getElem? (i := 172) rfl) rfl
theorem zw_244 : Cond.fieldLink "MissingLamps$Reader" (9 : Nat) "MissingLamps$Reader" "ownNames" "[I" ∈ ztb := zt_in0 (List.mem_of_getElem? (i := 222) rfl) rfl
theorem zw_245 : Cond.fieldLink "MissingLamps$Reader" (15 : Nat) "MissingLamps$Reader" "text" "[I" ∈ ztb := zt_in0 (List.mem_of_getElem? (i := 223) rfl) rfl
theorem zw_246 : Cond.methodLink "MissingLamps$Reader" (20 : Nat) ({ cls := "java/lang/String", name := "length", desc := "()I" } : MethodName) ∈ ztb := zt_in0 (List.mem_of_getElem? (i := 174) rfl) rfl
theorem zw_247 : Cond.instanceMethod ({ cls := "java/lang/String", name := "length", desc := "()I" } : MethodName) ∈ ztb := zt_in0 (List.mem_of_getElem? (i := 175) rfl) rfl
theorem zw_248 : Cond.selects "java/lang/String" ({ cls := "java/lang/String", name := "length", desc := "()I" } : MethodName) ({ cls := "java/lang/String", name := "length", desc := "()I" } : MethodName) ∈ ztb := zt_in0 (List.mem_of_getElem? (i := 176) rfl) rfl
theorem zw_249 : Cond.methodLink "MissingLamps$Reader" (26 : Nat) ({ cls := "java/lang/String", name := "charAt", desc := "(I)C" } : MethodName) ∈ ztb := zt_in0 (List.mem_of_getElem? (i := 184) rfl) rfl
theorem zw_250 : Cond.instanceMethod ({ cls := "java/lang/String", name := "charAt", desc := "(I)C" } : MethodName) ∈ ztb := zt_in0 (List.mem_of_getElem? (i := 185) rfl) rfl
theorem zw_251 : Cond.selects "java/lang/String" ({ cls := "java/lang/String", name := "charAt", desc := "(I)C" } : MethodName) ({ cls := "java/lang/String", name := "charAt", desc := "(I)C" } : MethodName) ∈ ztb := zt_in0 (List.mem_of_getElem? (i := 186) rfl) rfl
theorem zw_252 : Cond.methodLink "MissingLamps$Reader" (30 : Nat) ({ cls := "java/lang/Math", name := "min", desc := "(II)I" } : MethodName) ∈ ztb := zt_in2 (List.mem_of_getElem? (i := 121) rfl) rfl
theorem zw_253 : Cond.fieldLink "MissingLamps$Reader" (36 : Nat) "MissingLamps$Reader" "length" "I" ∈ ztb := zt_in0 (List.mem_of_getElem? (i := 224) rfl) rfl
theorem zw_254 : Cond.fieldLink "MissingLamps$Reader" (39 : Nat) "MissingLamps$Reader" "at" "I" ∈ ztb := zt_in0 (List.mem_of_getElem? (i := 225) rfl) rfl
theorem zw_255 : Cond.fieldLink "MissingLamps$Reader" (42 : Nat) "MissingLamps$Reader" "kind" "I" ∈ ztb := zt_in0 (List.mem_of_getElem? (i := 226) rfl) rfl
theorem zw_256 : Cond.fieldLink "MissingLamps$Reader" (45 : Nat) "MissingLamps$Reader" "faultKind" "I" ∈ ztb := zt_in1 (List.mem_of_getElem? (i := 2) rfl) rfl
theorem zw_257 : Cond.fieldLink "MissingLamps$Reader" (48 : Nat) "MissingLamps$Reader" "faultPlace" "I" ∈ ztb := zt_in1 (List.mem_of_getElem? (i := 3) rfl) rfl
theorem zw_258 : Cond.methodLink "MissingLamps$Reader" (51 : Nat) ({ cls := "MissingLamps$Reader", name := "advance", desc := "()V" } : MethodName) ∈ ztb := zt_in2 (List.mem_of_getElem? (i := 124) rfl) rfl
theorem zw_259 : Cond.instanceMethod ({ cls := "MissingLamps$Reader", name := "advance", desc := "()V" } : MethodName) ∈ ztb := zt_in2 (List.mem_of_getElem? (i := 125) rfl) rfl
theorem zw_260 : Cond.selects "MissingLamps$Reader" ({ cls := "MissingLamps$Reader", name := "advance", desc := "()V" } : MethodName) ({ cls := "MissingLamps$Reader", name := "advance", desc := "()V" } : MethodName) ∈ ztb := zt_in2 (List.mem_of_getElem? (i := 126) rfl) rfl
theorem zw_261 : Cond.fieldLink "MissingLamps$Reader" (54 : Nat) "MissingLamps$Reader" "first" "I" ∈ ztb := zt_in0 (List.mem_of_getElem? (i := 232) rfl) rfl
theorem zw_262 : Cond.fieldLink "MissingLamps$Reader" (57 : Nat) "MissingLamps$Reader" "place" "I" ∈ ztb := zt_in0 (List.mem_of_getElem? (i := 234) rfl) rfl
theorem zw_263 : Cond.fieldLink "MissingLamps$Reader" (60 : Nat) "MissingLamps$Reader" "value" "I" ∈ ztb := zt_in0 (List.mem_of_getElem? (i := 229) rfl) rfl
theorem zw_264 : Cond.methodLink "MissingLamps$Reader" (63 : Nat) ({ cls := "MissingLamps$Reader", name := "readWord", desc := "(Z)V" } : MethodName) ∈ ztb := zt_in2 (List.mem_of_getElem? (i := 128) rfl) rfl
theorem zw_265 : Cond.instanceMethod ({ cls := "MissingLamps$Reader", name := "readWord", desc := "(Z)V" } : MethodName) ∈ ztb := zt_in2 (List.mem_of_getElem? (i := 130) rfl) rfl
theorem zw_266 : Cond.selects "MissingLamps$Reader" ({ cls := "MissingLamps$Reader", name := "readWord", desc := "(Z)V" } : MethodName) ({ cls := "MissingLamps$Reader", name := "readWord", desc := "(Z)V" } : MethodName) ∈ ztb := zs_in0 (q := (⟨"MissingLamps$Reader", "readWord", "(Z)V"⟩, 12)) (List.mem_of_getElem? (i := 4) rfl) rfl
theorem zw_267 : Cond.methodLink "MissingLamps$Reader" (67 : Nat) ({ cls := "MissingLamps$Reader", name := "readNumber", desc := "(Z)V" } : MethodName) ∈ ztb := zt_in2 (List.mem_of_getElem? (i := 132) rfl) rfl
theorem zw_268 : Cond.instanceMethod ({ cls := "MissingLamps$Reader", name := "readNumber", desc := "(Z)V" } : MethodName) ∈ ztb := zt_in2 (List.mem_of_getElem? (i := 134) rfl) rfl
theorem zw_269 : Cond.selects "MissingLamps$Reader" ({ cls := "MissingLamps$Reader", name := "readNumber", desc := "(Z)V" } : MethodName) ({ cls := "MissingLamps$Reader", name := "readNumber", desc := "(Z)V" } : MethodName) ∈ ztb := zs_in0 (q := (⟨"MissingLamps$Reader", "readNumber", "(Z)V"⟩, 12)) (List.mem_of_getElem? (i := 5) rfl) rfl
theorem zw_270 : Cond.methodLink "MissingLamps$Reader" (70 : Nat) ({ cls := "MissingLamps$Reader", name := "isOwn", desc := "(I)Z" } : MethodName) ∈ ztb := zt_in2 (List.mem_of_getElem? (i := 144) rfl) rfl
theorem zw_271 : Cond.instanceMethod ({ cls := "MissingLamps$Reader", name := "isOwn", desc := "(I)Z" } : MethodName) ∈ ztb := zt_in2 (List.mem_of_getElem? (i := 145) rfl) rfl
theorem zw_272 : Cond.selects "MissingLamps$Reader" ({ cls := "MissingLamps$Reader", name := "isOwn", desc := "(I)Z" } : MethodName) ({ cls := "MissingLamps$Reader", name := "isOwn", desc := "(I)Z" } : MethodName) ∈ ztb := zt_in2 (List.mem_of_getElem? (i := 146) rfl) rfl
theorem zw_273 : Cond.methodLink "MissingLamps$Reader" (74 : Nat) ({ cls := "MissingLamps$Reader", name := "faults", desc := "(II)Z" } : MethodName) ∈ ztb := zt_in2 (List.mem_of_getElem? (i := 148) rfl) rfl
theorem zw_274 : Cond.instanceMethod ({ cls := "MissingLamps$Reader", name := "faults", desc := "(II)Z" } : MethodName) ∈ ztb := zt_in2 (List.mem_of_getElem? (i := 149) rfl) rfl
theorem zw_275 : Cond.selects "MissingLamps$Reader" ({ cls := "MissingLamps$Reader", name := "faults", desc := "(II)Z" } : MethodName) ({ cls := "MissingLamps$Reader", name := "faults", desc := "(II)Z" } : MethodName) ∈ ztb := zt_in2 (List.mem_of_getElem? (i := 150) rfl) rfl
theorem zw_276 : Cond.methodLink "MissingLamps$Reader" (78 : Nat) ({ cls := "MissingLamps$Reader", name := "isSign", desc := "(I)Z" } : MethodName) ∈ ztb := zt_in2 (List.mem_of_getElem? (i := 164) rfl) rfl
theorem zw_277 : Cond.instanceMethod ({ cls := "MissingLamps$Reader", name := "isSign", desc := "(I)Z" } : MethodName) ∈ ztb := zt_in2 (List.mem_of_getElem? (i := 165) rfl) rfl
theorem zw_278 : Cond.selects "MissingLamps$Reader" ({ cls := "MissingLamps$Reader", name := "isSign", desc := "(I)Z" } : MethodName) ({ cls := "MissingLamps$Reader", name := "isSign", desc := "(I)Z" } : MethodName) ∈ ztb := zt_in2 (List.mem_of_getElem? (i := 166) rfl) rfl
theorem zw_279 : Cond.fieldLink "MissingLamps$Reader" (81 : Nat) "MissingLamps$Reader" "taken" "I" ∈ ztb := zt_in0 (List.mem_of_getElem? (i := 238) rfl) rfl
theorem zw_280 : Cond.fieldLink "MissingLamps$Reader" (84 : Nat) "MissingLamps$Reader" "takenPlace" "I" ∈ ztb := zt_in0 (List.mem_of_getElem? (i := 239) rfl) rfl
theorem zw_281 : Cond.methodLink "MissingLamps$Reckoner" (3 : Nat) ({ cls := "java/lang/Object", name := "<init>", desc := "()V" } : MethodName) ∈ ztb := zt_in1 (List.mem_of_getElem? (i := 164) rfl) rfl
theorem zw_282 : Cond.fieldLink "MissingLamps$Reckoner" (9 : Nat) "MissingLamps$Reckoner" "stack" "[I" ∈ ztb := zt_in1 (List.mem_of_getElem? (i := 165) rfl) rfl
theorem zw_283 : Cond.fieldLink "MissingLamps$Reckoner" (15 : Nat) "MissingLamps$Rules" "firsts" "[I" ∈ ztb := zt_in0 (List.mem_of_getElem? (i := 45) rfl) rfl
theorem zw_284 : Cond.fieldLink "MissingLamps$Reckoner" (20 : Nat) "MissingLamps$Rules" "ends" "[I" ∈ ztb := zt_in0 (List.mem_of_getElem? (i := 47) rfl) rfl
theorem zw_285 : Cond.fieldLink "MissingLamps$Reckoner" (23 : Nat) "MissingLamps$Rules" "code" "[I" ∈ ztb := zt_in0 (List.mem_of_getElem? (i := 43) rfl) rfl
theorem zw_286 : Cond.methodLink "MissingLamps$Reckoner" (26 : Nat) ({ cls := "MissingLamps$Reckoner", name := "joined", desc := "(III)I" } : MethodName) ∈ ztb := zt_in3 (List.mem_of_getElem? (i := 138) rfl) rfl
theorem zw_287 : Cond.static ({ cls := "MissingLamps$Reckoner", name := "joined", desc := "(III)I" } : MethodName) ∈ ztb := zt_in3 (List.mem_of_getElem? (i := 139) rfl) rfl
theorem zw_288 : Cond.methodLink "MissingLamps$Reckoner" (30 : Nat) ({ cls := "MissingLamps$Reckoner", name := "named", desc := "(I)I" } : MethodName) ∈ ztb := zt_in3 (List.mem_of_getElem? (i := 158) rfl) rfl
theorem zw_289 : Cond.instanceMethod ({ cls := "MissingLamps$Reckoner", name := "named", desc := "(I)I" } : MethodName) ∈ ztb := zt_in3 (List.mem_of_getElem? (i := 160) rfl) rfl
theorem zw_290 : Cond.selects "MissingLamps$Reckoner" ({ cls := "MissingLamps$Reckoner", name := "named", desc := "(I)I" } : MethodName) ({ cls := "MissingLamps$Reckoner", name := "named", desc := "(I)I" } : MethodName) ∈ ztb := zs_in1 (q := (⟨"MissingLamps$Reckoner", "named", "(I)I"⟩, 7)) (List.mem_of_getElem? (i := 15) rfl) rfl
theorem zw_291 : Cond.methodLink "MissingLamps$Reckoner" (34 : Nat) ({ cls := "java/lang/Math", name := "max", desc := "(II)I" } : MethodName) ∈ ztb := zt_in3 (List.mem_of_getElem? (i := 155) rfl) rfl
theorem zw_292 : Cond.fieldLink "MissingLamps$Reckoner" (40 : Nat) "MissingLamps$Reckoner" "night" "I" ∈ ztb := zt_in1 (List.mem_of_getElem? (i := 166) rfl) rfl
theorem zw_293 : Cond.fieldLink "MissingLamps$Reckoner" (44 : Nat) "MissingLamps$Reckoner" "hue" "I" ∈ ztb := zt_in1 (List.mem_of_getElem? (i := 168) rfl) rfl
theorem zw_294 : Cond.fieldLink "MissingLamps$Reckoner" (47 : Nat) "MissingLamps$Reckoner" "high" "I" ∈ ztb := zt_in1 (List.mem_of_getElem? (i := 170) rfl) rfl
theorem zw_295 : Cond.fieldLink "MissingLamps$Reckoner" (50 : Nat) "MissingLamps$Reckoner" "age" "I" ∈ ztb := zt_in1 (List.mem_of_getElem? (i := 172) rfl) rfl
theorem zw_296 : Cond.fieldLink "MissingLamps$Reckoner" (53 : Nat) "MissingLamps$Reckoner" "lost" "I" ∈ ztb := zt_in1 (List.mem_of_getElem? (i := 174) rfl) rfl
theorem zw_297 : Cond.fieldLink "MissingLamps$Reckoner" (56 : Nat) "MissingLamps$Reckoner" "near" "I" ∈ ztb := zt_in1 (List.mem_of_getElem? (i := 176) rfl) rfl
theorem zw_298 : Cond.methodLink "MissingLamps$Reckoner" (59 : Nat) ({ cls := "MissingLamps$Reckoner", name := "bounded", desc := "(J)I" } : MethodName) ∈ ztb := zt_in3 (List.mem_of_getElem? (i := 141) rfl) rfl
theorem zw_299 : Cond.static ({ cls := "MissingLamps$Reckoner", name := "bounded", desc := "(J)I" } : MethodName) ∈ ztb := zt_in3 (List.mem_of_getElem? (i := 142) rfl) rfl
theorem zw_300 : Cond.methodLink "MissingLamps$Reckoner" (69 : Nat) ({ cls := "java/lang/Math", name := "min", desc := "(II)I" } : MethodName) ∈ ztb := zt_in3 (List.mem_of_getElem? (i := 154) rfl) rfl
theorem zw_301 : Cond.constantLong "MissingLamps$Reckoner" (72 : Nat) (1000000 : Int64) ∈ ztb := zt_in3 (List.mem_of_getElem? (i := 144) rfl) rfl
theorem zw_302 : Cond.constant "MissingLamps$Reckoner" (74 : Nat) (1000000 : Int32) ∈ ztb := zt_in3 (List.mem_of_getElem? (i := 145) rfl) rfl
theorem zw_303 : Cond.constantLong "MissingLamps$Reckoner" (75 : Nat) (-1000000 : Int64) ∈ ztb := zt_in3 (List.mem_of_getElem? (i := 146) rfl) rfl
theorem zw_304 : Cond.constant "MissingLamps$Reckoner" (77 : Nat) (-1000000 : Int32) ∈ ztb := zt_in3 (List.mem_of_getElem? (i := 147) rfl) rfl
theorem zw_305 : Cond.methodLink "MissingLamps$Rules" (3 : Nat) ({ cls := "java/lang/Object", name := "<init>", desc := "()V" } : MethodName) ∈ ztb := zt_in0 (List.mem_of_getElem? (i := 41) rfl) rfl
theorem zw_306 : Cond.fieldLink "MissingLamps$Rules" (9 : Nat) "MissingLamps$Rules" "code" "[I" ∈ ztb := zt_in0 (List.mem_of_getElem? (i := 42) rfl) rfl
theorem zw_307 : Cond.fieldLink "MissingLamps$Rules" (15 : Nat) "MissingLamps$Rules" "firsts" "[I" ∈ ztb := zt_in0 (List.mem_of_getElem? (i := 44) rfl) rfl
theorem zw_308 : Cond.fieldLink "MissingLamps$Rules" (18 : Nat) "MissingLamps$Rules" "ends" "[I" ∈ ztb := zt_in0 (List.mem_of_getElem? (i := 46) rfl) rfl
theorem zw_309 : Cond.fieldLink "MissingLamps$Rules" (21 : Nat) "MissingLamps$Rules" "size" "I" ∈ ztb := zt_in0 (List.mem_of_getElem? (i := 48) rfl) rfl
theorem zw_310 : Cond.methodLink "MissingLamps$State" (3 : Nat) ({ cls := "java/lang/Object", name := "<init>", desc := "()V" } : MethodName) ∈ ztb := zt_in1 (List.mem_of_getElem? (i := 65) rfl) rfl
theorem zw_311 : Cond.fieldLink "MissingLamps$State" (9 : Nat) "MissingLamps$State" "ages" "[I" ∈ ztb := zt_in1 (List.mem_of_getElem? (i := 76) rfl) rfl
theorem zw_312 : Cond.fieldLink "MissingLamps$State" (15 : Nat) "MissingLamps$State" "places" "[I" ∈ ztb := zt_in1 (List.mem_of_getElem? (i := 80) rfl) rfl
theorem zw_313 : Cond.fieldLink "MissingLamps$State" (18 : Nat) "MissingLamps$State" "supposedThing" "I" ∈ ztb := zt_in1 (List.mem_of_getElem? (i := 85) rfl) rfl
theorem zw_314 : Cond.fieldLink "MissingLamps$State" (22 : Nat) "MissingLamps$State" "night" "I" ∈ ztb := zt_in1 (List.mem_of_getElem? (i := 66) rfl) rfl
theorem zw_315 : Cond.fieldLink "MissingLamps$State" (25 : Nat) "MissingLamps$State" "missing" "I" ∈ ztb := zt_in1 (List.mem_of_getElem? (i := 71) rfl) rfl
theorem zw_316 : Cond.methodLink "MissingLamps$State" (28 : Nat) ({ cls := "java/lang/System", name := "arraycopy", desc := "(Ljava/lang/Object;ILjava/lang/Object;II)V" } : MethodName) ∈ ztb := zt_in4 (List.mem_of_getElem? (i := 6) rfl) rfl
theorem zw_317 : Cond.fieldLink "MissingLamps$State" (34 : Nat) "MissingLamps$State" "supposedHue" "I" ∈ ztb := zt_in1 (List.mem_of_getElem? (i := 88) rfl) rfl
theorem zw_318 : Cond.methodLink "MissingLamps$StatementReader" (3 : Nat) ({ cls := "java/lang/Object", name := "<init>", desc := "()V" } : MethodName) ∈ ztb := zt_in0 (List.mem_of_getElem? (i := 166) rfl) rfl
theorem zw_319 : Cond.classLink "MissingLamps$StatementReader" (9 : Nat) "MissingLamps$Reader" ∈ ztb := zt_in0 (List.mem_of_getElem? (i := 167) rfl) rfl
theorem zw_320 : Cond.instantiable "MissingLamps$Reader" (12 : Nat) ∈ ztb := zt_in0 (List.mem_of_getElem? (i := 168) rfl) rfl
theorem zw_321 : Cond.initialized "MissingLamps$Reader" ∈ ztb := zt_in0 (List.mem_of_getElem? (i := 5) rfl) rfl
theorem zw_322 : Cond.methodLink "MissingLamps$StatementReader" (11 : Nat) ({ cls := "MissingLamps$Reader", name := "<init>", desc := "()V" } : MethodName) ∈ ztb := zt_in0 (List.mem_of_getElem? (i := 169) rfl) rfl
theorem zw_323 : Cond.instanceMethod ({ cls := "MissingLamps$Reader", name := "<init>", desc := "()V" } : MethodName) ∈ ztb := zt_in0 (List.mem_of_getElem? (i := 170) rfl) rfl
theorem zw_324 : Cond.fieldLink "MissingLamps$StatementReader" (12 : Nat) "MissingLamps$StatementReader" "reader" "LMissingLamps$Reader;" ∈ ztb := zt_in1 (List.mem_of_getElem? (i := 47) rfl) rfl
theorem zw_325 : Cond.fieldLink "MissingLamps$StatementReader" (18 : Nat) "MissingLamps$StatementReader" "target" "LMissingLamps$Quay;" ∈ ztb := zt_in1 (List.mem_of_getElem? (i := 49) rfl) rfl
theorem zw_326 : Cond.classLink "MissingLamps$StatementReader" (22 : Nat) "MissingLamps$SumReader" ∈ ztb := zt_in1 (List.mem_of_getElem? (i := 31) rfl) rfl
theorem zw_327 : Cond.instantiable "MissingLamps$SumReader" (3 : Nat) ∈ ztb := zt_in1 (List.mem_of_getElem? (i := 32) rfl) rfl
theorem zw_328 : Cond.initialized "MissingLamps$SumReader" ∈ ztb := zt_in0 (List.mem_of_getElem? (i := 10) rfl) rfl
theorem zw_329 : Cond.fieldLink "MissingLamps$StatementReader" (24 : Nat) "MissingLamps$Quay" "rules" "LMissingLamps$Rules;" ∈ ztb := zt_in0 (List.mem_of_getElem? (i := 121) rfl) rfl
theorem zw_330 : Cond.methodLink "MissingLamps$StatementReader" (30 : Nat) ({ cls := "MissingLamps$SumReader", name := "<init>", desc := "(LMissingLamps$Reader;LMissingLamps$Rules;)V" } : MethodName) ∈ ztb := zt_in1 (List.mem_of_getElem? (i := 33) rfl) rfl
theorem zw_331 : Cond.instanceMethod ({ cls := "MissingLamps$SumReader", name := "<init>", desc := "(LMissingLamps$Reader;LMissingLamps$Rules;)V" } : MethodName) ∈ ztb := zt_in1 (List.mem_of_getElem? (i := 34) rfl) rfl
theorem zw_332 : Cond.fieldLink "MissingLamps$StatementReader" (33 : Nat) "MissingLamps$StatementReader" "sums" "LMissingLamps$SumReader;" ∈ ztb := zt_in1 (List.mem_of_getElem? (i := 48) rfl) rfl
theorem zw_333 : Cond.fieldLink "MissingLamps$StatementReader" (37 : Nat) "MissingLamps$Reader" "faultKind" "I" ∈ ztb := zt_in1 (List.mem_of_getElem? (i := 1) rfl) rfl
theorem zw_334 : Cond.fieldLink "MissingLamps$StatementReader" (41 : Nat) "MissingLamps$Reader" "faultPlace" "I" ∈ ztb := zt_in1 (List.mem_of_getElem? (i := 4) rfl) rfl
theorem zw_335 : Cond.methodLink "MissingLamps$StatementReader" (44 : Nat) ({ cls := "MissingLamps$Quay", name := "clear", desc := "()V" } : MethodName) ∈ ztb := zt_in2 (List.mem_of_getElem? (i := 109) rfl) rfl
theorem zw_336 : Cond.instanceMethod ({ cls := "MissingLamps$Quay", name := "clear", desc := "()V" } : MethodName) ∈ ztb := zt_in2 (List.mem_of_getElem? (i := 110) rfl) rfl
theorem zw_337 : Cond.selects "MissingLamps$Quay" ({ cls := "MissingLamps$Quay", name := "clear", desc := "()V" } : MethodName) ({ cls := "MissingLamps$Quay", name := "clear", desc := "()V" } : MethodName) ∈ ztb := zt_in2 (List.mem_of_getElem? (i := 111) rfl) rfl
theorem zw_338 : Cond.methodLink "MissingLamps$StatementReader" (47 : Nat) ({ cls := "MissingLamps$Reader", name := "begin", desc := "([II)V" } : MethodName) ∈ ztb := zt_in2 (List.mem_of_getElem? (i := 117) rfl) rfl
theorem zw_339 : Cond.instanceMethod ({ cls := "MissingLamps$Reader", name := "begin", desc := "([II)V" } : MethodName) ∈ ztb := zt_in2 (List.mem_of_getElem? (i := 118) rfl) rfl
theorem zw_340 : Cond.selects "MissingLamps$Reader" ({ cls := "MissingLamps$Reader", name := "begin", desc := "([II)V" } : MethodName) ({ cls := "MissingLamps$Reader", name := "begin", desc := "([II)V" } : MethodName) ∈ ztb := zt_in2 (List.mem_of_getElem? (i := 119) rfl) rfl
theorem zw_341 : Cond.methodLink "MissingLamps$StatementReader" (51 : Nat) ({ cls := "MissingLamps$StatementReader", name := "takesSize", desc := "()Z" } : MethodName) ∈ ztb := zt_in2 (List.mem_of_getElem? (i := 136) rfl) rfl
theorem zw_342 : Cond.instanceMethod ({ cls := "MissingLamps$StatementReader", name := "takesSize", desc := "()Z" } : MethodName) ∈ ztb := zt_in2 (List.mem_of_getElem? (i := 138) rfl) rfl
theorem zw_343 : Cond.selects "MissingLamps$StatementReader" ({ cls := "MissingLamps$StatementReader", name := "takesSize", desc := "()Z" } : MethodName) ({ cls := "MissingLamps$StatementReader", name := "takesSize", desc := "()Z" } : MethodName) ∈ ztb := zs_in0 (q := (⟨"MissingLamps$StatementReader", "takesSize", "()Z"⟩, 4)) (List.mem_of_getElem? (i := 6) rfl) rfl
theorem zw_344 : Cond.methodLink "MissingLamps$StatementReader" (55 : Nat) ({ cls := "MissingLamps$Reader", name := "takesSign", desc := "(I)Z" } : MethodName) ∈ ztb := zt_in2 (List.mem_of_getElem? (i := 160) rfl) rfl
theorem zw_345 : Cond.instanceMethod ({ cls := "MissingLamps$Reader", name := "takesSign", desc := "(I)Z" } : MethodName) ∈ ztb := zt_in2 (List.mem_of_getElem? (i := 161) rfl) rfl
theorem zw_346 : Cond.selects "MissingLamps$Reader" ({ cls := "MissingLamps$Reader", name := "takesSign", desc := "(I)Z" } : MethodName) ({ cls := "MissingLamps$Reader", name := "takesSign", desc := "(I)Z" } : MethodName) ∈ ztb := zt_in2 (List.mem_of_getElem? (i := 162) rfl) rfl
theorem zw_347 : Cond.fieldLink "MissingLamps$StatementReader" (59 : Nat) "MissingLamps$Quay" "statements" "I" ∈ ztb := zt_in0 (List.mem_of_getElem? (i := 60) rfl) rfl
theorem zw_348 : Cond.fieldLink "MissingLamps$StatementReader" (62 : Nat) "MissingLamps$Reader" "kind" "I" ∈ ztb := zt_in0 (List.mem_of_getElem? (i := 227) rfl) rfl
theorem zw_349 : Cond.methodLink "MissingLamps$StatementReader" (65 : Nat) ({ cls := "MissingLamps$StatementReader", name := "takesStatement", desc := "()Z" } : MethodName) ∈ ztb := zt_in2 (List.mem_of_getElem? (i := 168) rfl) rfl
theorem zw_350 : Cond.instanceMethod ({ cls := "MissingLamps$StatementReader", name := "takesStatement", desc := "()Z" } : MethodName) ∈ ztb := zt_in2 (List.mem_of_getElem? (i := 170) rfl) rfl
theorem zw_351 : Cond.selects "MissingLamps$StatementReader" ({ cls := "MissingLamps$StatementReader", name := "takesStatement", desc := "()Z" } : MethodName) ({ cls := "MissingLamps$StatementReader", name := "takesStatement", desc := "()Z" } : MethodName) ∈ ztb := zs_in0 (q := (⟨"MissingLamps$StatementReader", "takesStatement", "()Z"⟩, 4)) (List.mem_of_getElem? (i := 7) rfl) rfl
theorem zw_352 : Cond.fieldLink "MissingLamps$StatementReader" (68 : Nat) "MissingLamps$Reader" "first" "I" ∈ ztb := zt_in0 (List.mem_of_getElem? (i := 233) rfl) rfl
theorem zw_353 : Cond.methodLink "MissingLamps$StatementReader" (71 : Nat) ({ cls := "MissingLamps$Reader", name := "faults", desc := "(II)Z" } : MethodName) ∈ ztb := zt_in2 (List.mem_of_getElem? (i := 200) rfl) rfl
theorem zw_354 : Cond.methodLink "MissingLamps$StatementReader" (75 : Nat) ({ cls := "MissingLamps$Reader", name := "takesOwn", desc := "(I)Z" } : MethodName) ∈ ztb := zt_in2 (List.mem_of_getElem? (i := 140) rfl) rfl
theorem zw_355 : Cond.instanceMethod ({ cls := "MissingLamps$Reader", name := "takesOwn", desc := "(I)Z" } : MethodName) ∈ ztb := zt_in2 (List.mem_of_getElem? (i := 141) rfl) rfl
theorem zw_356 : Cond.selects "MissingLamps$Reader" ({ cls := "MissingLamps$Reader", name := "takesOwn", desc := "(I)Z" } : MethodName) ({ cls := "MissingLamps$Reader", name := "takesOwn", desc := "(I)Z" } : MethodName) ∈ ztb := zt_in2 (List.mem_of_getElem? (i := 142) rfl) rfl
theorem zw_357 : Cond.methodLink "MissingLamps$StatementReader" (78 : Nat) ({ cls := "MissingLamps$Reader", name := "takesNumber", desc := "(II)Z" } : MethodName) ∈ ztb := zt_in2 (List.mem_of_getElem? (i := 152) rfl) rfl
theorem zw_358 : Cond.instanceMethod ({ cls := "MissingLamps$Reader", name := "takesNumber", desc := "(II)Z" } : MethodName) ∈ ztb := zt_in2 (List.mem_of_getElem? (i := 153) rfl) rfl
theorem zw_359 : Cond.selects "MissingLamps$Reader" ({ cls := "MissingLamps$Reader", name := "takesNumber", desc := "(II)Z" } : MethodName) ({ cls := "MissingLamps$Reader", name := "takesNumber", desc := "(II)Z" } : MethodName) ∈ ztb := zt_in2 (List.mem_of_getElem? (i := 154) rfl) rfl
theorem zw_360 : Cond.fieldLink "MissingLamps$StatementReader" (81 : Nat) "MissingLamps$Reader" "taken" "I" ∈ ztb := zt_in0 (List.mem_of_getElem? (i := 237) rfl) rfl
theorem zw_361 : Cond.methodLink "MissingLamps$StatementReader" (84 : Nat) ({ cls := "MissingLamps$Quay", name := "setSize", desc := "(II)V" } : MethodName) ∈ ztb := zt_in2 (List.mem_of_getElem? (i := 156) rfl) rfl
theorem zw_362 : Cond.instanceMethod ({ cls := "MissingLamps$Quay", name := "setSize", desc := "(II)V" } : MethodName) ∈ ztb := zt_in2 (List.mem_of_getElem? (i := 157) rfl) rfl
theorem zw_363 : Cond.selects "MissingLamps$Quay" ({ cls := "MissingLamps$Quay", name := "setSize", desc := "(II)V" } : MethodName) ({ cls := "MissingLamps$Quay", name := "setSize", desc := "(II)V" } : MethodName) ∈ ztb := zt_in2 (List.mem_of_getElem? (i := 158) rfl) rfl
theorem zw_364 : Cond.fieldLink "MissingLamps$StatementReader" (88 : Nat) "MissingLamps$Reader" "value" "I" ∈ ztb := zt_in0 (List.mem_of_getElem? (i := 231) rfl) rfl
theorem zw_365 : Cond.methodLink "MissingLamps$StatementReader" (91 : Nat) ({ cls := "MissingLamps$StatementReader", name := "takesPace", desc := "()Z" } : MethodName) ∈ ztb := zt_in2 (List.mem_of_getElem? (i := 172) rfl) rfl
theorem zw_366 : Cond.instanceMethod ({ cls := "MissingLamps$StatementReader", name := "takesPace", desc := "()Z" } : MethodName) ∈ ztb := zt_in2 (List.mem_of_getElem? (i := 174) rfl) rfl
theorem zw_367 : Cond.selects "MissingLamps$StatementReader" ({ cls := "MissingLamps$StatementReader", name := "takesPace", desc := "()Z" } : MethodName) ({ cls := "MissingLamps$StatementReader", name := "takesPace", desc := "()Z" } : MethodName) ∈ ztb := zs_in0 (q := (⟨"MissingLamps$StatementReader", "takesPace", "()Z"⟩, 4)) (List.mem_of_getElem? (i := 8) rfl) rfl
theorem zw_368 : Cond.methodLink "MissingLamps$StatementReader" (94 : Nat) ({ cls := "MissingLamps$StatementReader", name := "takesGale", desc := "()Z" } : MethodName) ∈ ztb := zt_in2 (List.mem_of_getElem? (i := 177) rfl) rfl
theorem zw_369 : Cond.instanceMethod ({ cls := "MissingLamps$StatementReader", name := "takesGale", desc := "()Z" } : MethodName) ∈ ztb := zt_in2 (List.mem_of_getElem? (i := 179) rfl) rfl
theorem zw_370 : Cond.selects "MissingLamps$StatementReader" ({ cls := "MissingLamps$StatementReader", name := "takesGale", desc := "()Z" } : MethodName) ({ cls := "MissingLamps$StatementReader", name := "takesGale", desc := "()Z" } : MethodName) ∈ ztb := zs_in0 (q := (⟨"MissingLamps$StatementReader", "takesGale", "()Z"⟩, 4)) (List.mem_of_getElem? (i := 9) rfl) rfl
theorem zw_371 : Cond.methodLink "MissingLamps$StatementReader" (97 : Nat) ({ cls := "MissingLamps$StatementReader", name := "takesWall", desc := "()Z" } : MethodName) ∈ ztb := zt_in2 (List.mem_of_getElem? (i := 181) rfl) rfl
theorem zw_372 : Cond.instanceMethod ({ cls := "MissingLamps$StatementReader", name := "takesWall", desc := "()Z" } : MethodName) ∈ ztb := zt_in2 (List.mem_of_getElem? (i := 183) rfl) rfl
theorem zw_373 : Cond.selects "MissingLamps$StatementReader" ({ cls := "MissingLamps$StatementReader", name := "takesWall", desc := "()Z" } : MethodName) ({ cls := "MissingLamps$StatementReader", name := "takesWall", desc := "()Z" } : MethodName) ∈ ztb := zs_in0 (q := (⟨"MissingLamps$StatementReader", "takesWall", "()Z"⟩, 4)) (List.mem_of_getElem? (i := 10) rfl) rfl
theorem zw_374 : Cond.methodLink "MissingLamps$StatementReader" (100 : Nat) ({ cls := "MissingLamps$StatementReader", name := "takesLack", desc := "()Z" } : MethodName) ∈ ztb := zt_in2 (List.mem_of_getElem? (i := 201) rfl) rfl
theorem zw_375 : Cond.instanceMethod ({ cls := "MissingLamps$StatementReader", name := "takesLack", desc := "()Z" } : MethodName) ∈ ztb := zt_in2 (List.mem_of_getElem? (i := 203) rfl) rfl
theorem zw_376 : Cond.selects "MissingLamps$StatementReader" ({ cls := "MissingLamps$StatementReader", name := "takesLack", desc := "()Z" } : MethodName) ({ cls := "MissingLamps$StatementReader", name := "takesLack", desc := "()Z" } : MethodName) ∈ ztb := zs_in0 (q := (⟨"MissingLamps$StatementReader", "takesLack", "()Z"⟩, 4)) (List.mem_of_getElem? (i := 12) rfl) rfl
theorem zw_377 : Cond.methodLink "MissingLamps$StatementReader" (103 : Nat) ({ cls := "MissingLamps$StatementReader", name := "takesHas", desc := "()Z" } : MethodName) ∈ ztb := zt_in2 (List.mem_of_getElem? (i := 221) rfl) rfl
theorem zw_378 : Cond.instanceMethod ({ cls := "MissingLamps$StatementReader", name := "takesHas", desc := "()Z" } : MethodName) ∈ ztb := zt_in2 (List.mem_of_getElem? (i := 223) rfl) rfl
theorem zw_379 : Cond.selects "MissingLamps$StatementReader" ({ cls := "MissingLamps$StatementReader", name := "takesHas", desc := "()Z" } : MethodName) ({ cls := "MissingLamps$StatementReader", name := "takesHas", desc := "()Z" } : MethodName) ∈ ztb := zs_in0 (q := (⟨"MissingLamps$StatementReader", "takesHas", "()Z"⟩, 4)) (List.mem_of_getElem? (i := 14) rfl) rfl
theorem zw_380 : Cond.methodLink "MissingLamps$StatementReader" (106 : Nat) ({ cls := "MissingLamps$StatementReader", name := "takesFolk", desc := "()Z" } : MethodName) ∈ ztb := zt_in2 (List.mem_of_getElem? (i := 226) rfl) rfl
theorem zw_381 : Cond.instanceMethod ({ cls := "MissingLamps$StatementReader", name := "takesFolk", desc := "()Z" } : MethodName) ∈ ztb := zt_in2 (List.mem_of_getElem? (i := 228) rfl) rfl
theorem zw_382 : Cond.selects "MissingLamps$StatementReader" ({ cls := "MissingLamps$StatementReader", name := "takesFolk", desc := "()Z" } : MethodName) ({ cls := "MissingLamps$StatementReader", name := "takesFolk", desc := "()Z" } : MethodName) ∈ ztb := zs_in0 (q := (⟨"MissingLamps$StatementReader", "takesFolk", "()Z"⟩, 4)) (List.mem_of_getElem? (i := 15) rfl) rfl
theorem zw_383 : Cond.methodLink "MissingLamps$StatementReader" (109 : Nat) ({ cls := "MissingLamps$StatementReader", name := "takesRule", desc := "(I)Z" } : MethodName) ∈ ztb := zt_in2 (List.mem_of_getElem? (i := 230) rfl) rfl
theorem zw_384 : Cond.instanceMethod ({ cls := "MissingLamps$StatementReader", name := "takesRule", desc := "(I)Z" } : MethodName) ∈ ztb := zt_in2 (List.mem_of_getElem? (i := 232) rfl) rfl
theorem zw_385 : Cond.selects "MissingLamps$StatementReader" ({ cls := "MissingLamps$StatementReader", name := "takesRule", desc := "(I)Z" } : MethodName) ({ cls := "MissingLamps$StatementReader", name := "takesRule", desc := "(I)Z" } : MethodName) ∈ ztb := zs_in1 (q := (⟨"MissingLamps$StatementReader", "takesRule", "(I)Z"⟩, 4)) (List.mem_of_getElem? (i := 0) rfl) rfl
theorem zw_386 : Cond.fieldLink "MissingLamps$StatementReader" (112 : Nat) "MissingLamps$Reader" "place" "I" ∈ ztb := zt_in0 (List.mem_of_getElem? (i := 236) rfl) rfl
theorem zw_387 : Cond.methodLink "MissingLamps$StatementReader" (115 : Nat) ({ cls := "MissingLamps$Reader", name := "advance", desc := "()V" } : MethodName) ∈ ztb := zt_in2 (List.mem_of_getElem? (i := 176) rfl) rfl
theorem zw_388 : Cond.fieldLink "MissingLamps$StatementReader" (118 : Nat) "MissingLamps$Quay" "pace" "I" ∈ ztb := zt_in0 (List.mem_of_getElem? (i := 69) rfl) rfl
theorem zw_389 : Cond.fieldLink "MissingLamps$StatementReader" (121 : Nat) "MissingLamps$Quay" "gale" "I" ∈ ztb := zt_in0 (List.mem_of_getElem? (i := 72) rfl) rfl
theorem zw_390 : Cond.methodLink "MissingLamps$StatementReader" (124 : Nat) ({ cls := "MissingLamps$Quay", name := "taken", desc := "()J" } : MethodName) ∈ ztb := zt_in2 (List.mem_of_getElem? (i := 185) rfl) rfl
theorem zw_391 : Cond.instanceMethod ({ cls := "MissingLamps$Quay", name := "taken", desc := "()J" } : MethodName) ∈ ztb := zt_in2 (List.mem_of_getElem? (i := 186) rfl) rfl
theorem zw_392 : Cond.selects "MissingLamps$Quay" ({ cls := "MissingLamps$Quay", name := "taken", desc := "()J" } : MethodName) ({ cls := "MissingLamps$Quay", name := "taken", desc := "()J" } : MethodName) ∈ ztb := zt_in2 (List.mem_of_getElem? (i := 187) rfl) rfl
theorem zw_393 : Cond.methodLink "MissingLamps$StatementReader" (127 : Nat) ({ cls := "MissingLamps$StatementReader", name := "takesCell", desc := "(J)Z" } : MethodName) ∈ ztb := zt_in2 (List.mem_of_getElem? (i := 192) rfl) rfl
theorem zw_394 : Cond.instanceMethod ({ cls := "MissingLamps$StatementReader", name := "takesCell", desc := "(J)Z" } : MethodName) ∈ ztb := zt_in2 (List.mem_of_getElem? (i := 194) rfl) rfl
theorem zw_395 : Cond.selects "MissingLamps$StatementReader" ({ cls := "MissingLamps$StatementReader", name := "takesCell", desc := "(J)Z" } : MethodName) ({ cls := "MissingLamps$StatementReader", name := "takesCell", desc := "(J)Z" } : MethodName) ∈ ztb := zs_in0 (q := (⟨"MissingLamps$StatementReader", "takesCell", "(J)Z"⟩, 4)) (List.mem_of_getElem? (i := 11) rfl) rfl
theorem zw_396 : Cond.fieldLink "MissingLamps$StatementReader" (131 : Nat) "MissingLamps$Quay" "walls" "J" ∈ ztb := zt_in0 (List.mem_of_getElem? (i := 81) rfl) rfl
theorem zw_397 : Cond.fieldLink "MissingLamps$StatementReader" (135 : Nat) "MissingLamps$StatementReader" "spot" "I" ∈ ztb := zt_in1 (List.mem_of_getElem? (i := 50) rfl) rfl
theorem zw_398 : Cond.fieldLink "MissingLamps$StatementReader" (142 : Nat) "MissingLamps$Quay" "things" "I" ∈ ztb := zt_in0 (List.mem_of_getElem? (i := 87) rfl) rfl
theorem zw_399 : Cond.methodLink "MissingLamps$StatementReader" (145 : Nat) ({ cls := "MissingLamps$StatementReader", name := "takesNewName", desc := "()Z" } : MethodName) ∈ ztb := zt_in2 (List.mem_of_getElem? (i := 205) rfl) rfl
theorem zw_400 : Cond.instanceMethod ({ cls := "MissingLamps$StatementReader", name := "takesNewName", desc := "()Z" } : MethodName) ∈ ztb := zt_in2 (List.mem_of_getElem? (i := 207) rfl) rfl
theorem zw_401 : Cond.selects "MissingLamps$StatementReader" ({ cls := "MissingLamps$StatementReader", name := "takesNewName", desc := "()Z" } : MethodName) ({ cls := "MissingLamps$StatementReader", name := "takesNewName", desc := "()Z" } : MethodName) ∈ ztb := zs_in0 (q := (⟨"MissingLamps$StatementReader", "takesNewName", "()Z"⟩, 4)) (List.mem_of_getElem? (i := 13) rfl) rfl
theorem zw_402 : Cond.fieldLink "MissingLamps$StatementReader" (148 : Nat) "MissingLamps$Quay" "thingNames" "[I" ∈ ztb := zt_in0 (List.mem_of_getElem? (i := 90) rfl) rfl
theorem zw_403 : Cond.fieldLink "MissingLamps$StatementReader" (152 : Nat) "MissingLamps$Quay" "thingPlaces" "[I" ∈ ztb := zt_in0 (List.mem_of_getElem? (i := 95) rfl) rfl
theorem zw_404 : Cond.fieldLink "MissingLamps$StatementReader" (155 : Nat) "MissingLamps$Quay" "thingHues" "[I" ∈ ztb := zt_in0 (List.mem_of_getElem? (i := 98) rfl) rfl
theorem zw_405 : Cond.fieldLink "MissingLamps$StatementReader" (158 : Nat) "MissingLamps$Quay" "thingHighs" "[I" ∈ ztb := zt_in0 (List.mem_of_getElem? (i := 102) rfl) rfl
theorem zw_406 : Cond.fieldLink "MissingLamps$StatementReader" (161 : Nat) "MissingLamps$Quay" "missingFirst" "I" ∈ ztb := zt_in0 (List.mem_of_getElem? (i := 105) rfl) rfl
theorem zw_407 : Cond.methodLink "MissingLamps$StatementReader" (164 : Nat) ({ cls := "MissingLamps$Reader", name := "takesName", desc := "()Z" } : MethodName) ∈ ztb := zt_in2 (List.mem_of_getElem? (i := 209) rfl) rfl
theorem zw_408 : Cond.instanceMethod ({ cls := "MissingLamps$Reader", name := "takesName", desc := "()Z" } : MethodName) ∈ ztb := zt_in2 (List.mem_of_getElem? (i := 210) rfl) rfl
theorem zw_409 : Cond.selects "MissingLamps$Reader" ({ cls := "MissingLamps$Reader", name := "takesName", desc := "()Z" } : MethodName) ({ cls := "MissingLamps$Reader", name := "takesName", desc := "()Z" } : MethodName) ∈ ztb := zt_in2 (List.mem_of_getElem? (i := 211) rfl) rfl
theorem zw_410 : Cond.methodLink "MissingLamps$StatementReader" (167 : Nat) ({ cls := "MissingLamps$Quay", name := "thingNamed", desc := "(I)I" } : MethodName) ∈ ztb := zt_in2 (List.mem_of_getElem? (i := 225) rfl) rfl
theorem zw_411 : Cond.fieldLink "MissingLamps$StatementReader" (171 : Nat) "MissingLamps$Reader" "takenPlace" "I" ∈ ztb := zt_in1 (List.mem_of_getElem? (i := 0) rfl) rfl
theorem zw_412 : Cond.fieldLink "MissingLamps$StatementReader" (174 : Nat) "MissingLamps$Quay" "folk" "I" ∈ ztb := zt_in0 (List.mem_of_getElem? (i := 110) rfl) rfl
theorem zw_413 : Cond.fieldLink "MissingLamps$StatementReader" (177 : Nat) "MissingLamps$Quay" "folkNames" "[I" ∈ ztb := zt_in0 (List.mem_of_getElem? (i := 113) rfl) rfl
theorem zw_414 : Cond.fieldLink "MissingLamps$StatementReader" (180 : Nat) "MissingLamps$Quay" "starts" "[I" ∈ ztb := zt_in0 (List.mem_of_getElem? (i := 115) rfl) rfl
theorem zw_415 : Cond.fieldLink "MissingLamps$StatementReader" (183 : Nat) "MissingLamps$Quay" "homes" "[I" ∈ ztb := zt_in0 (List.mem_of_getElem? (i := 119) rfl) rfl
theorem zw_416 : Cond.methodLink "MissingLamps$StatementReader" (186 : Nat) ({ cls := "MissingLamps$Rules", name := "isTold", desc := "(I)Z" } : MethodName) ∈ ztb := zt_in2 (List.mem_of_getElem? (i := 234) rfl) rfl
theorem zw_417 : Cond.methodLink "MissingLamps$StatementReader" (191 : Nat) ({ cls := "MissingLamps$SumReader", name := "begin", desc := "(LMissingLamps$Rules;I)V" } : MethodName) ∈ ztb := zt_in2 (List.mem_of_getElem? (i := 238) rfl) rfl
theorem zw_418 : Cond.instanceMethod ({ cls := "MissingLamps$SumReader", name := "begin", desc := "(LMissingLamps$Rules;I)V" } : MethodName) ∈ ztb := zt_in2 (List.mem_of_getElem? (i := 239) rfl) rfl
theorem zw_419 : Cond.selects "MissingLamps$SumReader" ({ cls := "MissingLamps$SumReader", name := "begin", desc := "(LMissingLamps$Rules;I)V" } : MethodName) ({ cls := "MissingLamps$SumReader", name := "begin", desc := "(LMissingLamps$Rules;I)V" } : MethodName) ∈ ztb := zt_in3 (List.mem_of_getElem? (i := 0) rfl) rfl
theorem zw_420 : Cond.methodLink "MissingLamps$StatementReader" (194 : Nat) ({ cls := "MissingLamps$Rules", name := "begin", desc := "(I)V" } : MethodName) ∈ ztb := zt_in3 (List.mem_of_getElem? (i := 2) rfl) rfl
theorem zw_421 : Cond.instanceMethod ({ cls := "MissingLamps$Rules", name := "begin", desc := "(I)V" } : MethodName) ∈ ztb := zt_in3 (List.mem_of_getElem? (i := 3) rfl) rfl
theorem zw_422 : Cond.selects "MissingLamps$Rules" ({ cls := "MissingLamps$Rules", name := "begin", desc := "(I)V" } : MethodName) ({ cls := "MissingLamps$Rules", name := "begin", desc := "(I)V" } : MethodName) ∈ ztb := zt_in3 (List.mem_of_getElem? (i := 4) rfl) rfl
theorem zw_423 : Cond.instanceMethod ({ cls := "MissingLamps$SumReader", name := "takesSum", desc := "(I)Z" } : MethodName) ∈ ztb := zt_in3 (List.mem_of_getElem? (i := 8) rfl) rfl
theorem zw_424 : Cond.selects "MissingLamps$SumReader" ({ cls := "MissingLamps$SumReader", name := "takesSum", desc := "(I)Z" } : MethodName) ({ cls := "MissingLamps$SumReader", name := "takesSum", desc := "(I)Z" } : MethodName) ∈ ztb := zs_in1 (q := (⟨"MissingLamps$SumReader", "takesSum", "(I)Z"⟩, 3)) (List.mem_of_getElem? (i := 1) rfl) rfl
theorem zw_425 : Cond.instanceMethod ({ cls := "MissingLamps$SumReader", name := "takesTest", desc := "(I)Z" } : MethodName) ∈ ztb := zt_in3 (List.mem_of_getElem? (i := 41) rfl) rfl
theorem zw_426 : Cond.selects "MissingLamps$SumReader" ({ cls := "MissingLamps$SumReader", name := "takesTest", desc := "(I)Z" } : MethodName) ({ cls := "MissingLamps$SumReader", name := "takesTest", desc := "(I)Z" } : MethodName) ∈ ztb := zs_in1 (q := (⟨"MissingLamps$SumReader", "takesTest", "(I)Z"⟩, 3)) (List.mem_of_getElem? (i := 7) rfl) rfl
theorem zw_427 : Cond.methodLink "MissingLamps$StatementReader" (203 : Nat) ({ cls := "MissingLamps$Rules", name := "close", desc := "(I)V" } : MethodName) ∈ ztb := zt_in3 (List.mem_of_getElem? (i := 61) rfl) rfl
theorem zw_428 : Cond.instanceMethod ({ cls := "MissingLamps$Rules", name := "close", desc := "(I)V" } : MethodName) ∈ ztb := zt_in3 (List.mem_of_getElem? (i := 62) rfl) rfl
theorem zw_429 : Cond.selects "MissingLamps$Rules" ({ cls := "MissingLamps$Rules", name := "close", desc := "(I)V" } : MethodName) ({ cls := "MissingLamps$Rules", name := "close", desc := "(I)V" } : MethodName) ∈ ztb := zt_in3 (List.mem_of_getElem? (i := 63) rfl) rfl
theorem zw_430 : Cond.methodLink "MissingLamps$StatementReader" (206 : Nat) ({ cls := "MissingLamps$Quay", name := "isNamed", desc := "(I)Z" } : MethodName) ∈ ztb := zt_in2 (List.mem_of_getElem? (i := 213) rfl) rfl
theorem zw_431 : Cond.instanceMethod ({ cls := "MissingLamps$Quay", name := "isNamed", desc := "(I)Z" } : MethodName) ∈ ztb := zt_in2 (List.mem_of_getElem? (i := 214) rfl) rfl
theorem zw_432 : Cond.selects "MissingLamps$Quay" ({ cls := "MissingLamps$Quay", name := "isNamed", desc := "(I)Z" } : MethodName) ({ cls := "MissingLamps$Quay", name := "isNamed", desc := "(I)Z" } : MethodName) ∈ ztb := zt_in2 (List.mem_of_getElem? (i := 215) rfl) rfl
theorem zw_433 : Cond.fieldLink "MissingLamps$StatementReader" (209 : Nat) "MissingLamps$Quay" "columns" "I" ∈ ztb := zt_in0 (List.mem_of_getElem? (i := 64) rfl) rfl
theorem zw_434 : Cond.fieldLink "MissingLamps$StatementReader" (212 : Nat) "MissingLamps$Quay" "rows" "I" ∈ ztb := zt_in0 (List.mem_of_getElem? (i := 67) rfl) rfl
theorem zw_435 : Cond.methodLink "MissingLamps$SumReader" (3 : Nat) ({ cls := "java/lang/Object", name := "<init>", desc := "()V" } : MethodName) ∈ ztb := zt_in1 (List.mem_of_getElem? (i := 36) rfl) rfl
theorem zw_436 : Cond.fieldLink "MissingLamps$SumReader" (9 : Nat) "MissingLamps$SumReader" "reader" "LMissingLamps$Reader;" ∈ ztb := zt_in1 (List.mem_of_getElem? (i := 37) rfl) rfl
theorem zw_437 : Cond.fieldLink "MissingLamps$SumReader" (15 : Nat) "MissingLamps$SumReader" "rules" "LMissingLamps$Rules;" ∈ ztb := zt_in1 (List.mem_of_getElem? (i := 38) rfl) rfl
theorem zw_438 : Cond.fieldLink "MissingLamps$SumReader" (19 : Nat) "MissingLamps$SumReader" "rule" "I" ∈ ztb := zt_in1 (List.mem_of_getElem? (i := 39) rfl) rfl
theorem zw_439 : Cond.methodLink "MissingLamps$SumReader" (23 : Nat) ({ cls := "MissingLamps$SumReader", name := "takesBoth", desc := "(I)Z" } : MethodName) ∈ ztb := zt_in3 (List.mem_of_getElem? (i := 43) rfl) rfl
theorem zw_440 : Cond.instanceMethod ({ cls := "MissingLamps$SumReader", name := "takesBoth", desc := "(I)Z" } : MethodName) ∈ ztb := zt_in3 (List.mem_of_getElem? (i := 45) rfl) rfl
theorem zw_441 : Cond.selects "MissingLamps$SumReader" ({ cls := "MissingLamps$SumReader", name := "takesBoth", desc := "(I)Z" } : MethodName) ({ cls := "MissingLamps$SumReader", name := "takesBoth", desc := "(I)Z" } : MethodName) ∈ ztb := zs_in1 (q := (⟨"MissingLamps$SumReader", "takesBoth", "(I)Z"⟩, 3)) (List.mem_of_getElem? (i := 8) rfl) rfl
theorem zw_442 : Cond.methodLink "MissingLamps$SumReader" (27 : Nat) ({ cls := "MissingLamps$Reader", name := "isOwn", desc := "(I)Z" } : MethodName) ∈ ztb := zt_in3 (List.mem_of_getElem? (i := 51) rfl) rfl
theorem zw_443 : Cond.methodLink "MissingLamps$SumReader" (32 : Nat) ({ cls := "MissingLamps$Reader", name := "advance", desc := "()V" } : MethodName) ∈ ztb := zt_in3 (List.mem_of_getElem? (i := 22) rfl) rfl
theorem zw_444 : Cond.methodLink "MissingLamps$SumReader" (35 : Nat) ({ cls := "MissingLamps$Rules", name := "put", desc := "(I)Z" } : MethodName) ∈ ztb := zt_in3 (List.mem_of_getElem? (i := 18) rfl) rfl
theorem zw_445 : Cond.instanceMethod ({ cls := "MissingLamps$Rules", name := "put", desc := "(I)Z" } : MethodName) ∈ ztb := zt_in3 (List.mem_of_getElem? (i := 19) rfl) rfl
theorem zw_446 : Cond.selects "MissingLamps$Rules" ({ cls := "MissingLamps$Rules", name := "put", desc := "(I)Z" } : MethodName) ({ cls := "MissingLamps$Rules", name := "put", desc := "(I)Z" } : MethodName) ∈ ztb := zt_in3 (List.mem_of_getElem? (i := 20) rfl) rfl
theorem zw_447 : Cond.methodLink "MissingLamps$SumReader" (40 : Nat) ({ cls := "MissingLamps$SumReader", name := "takesFact", desc := "(I)Z" } : MethodName) ∈ ztb := zt_in3 (List.mem_of_getElem? (i := 47) rfl) rfl
theorem zw_448 : Cond.instanceMethod ({ cls := "MissingLamps$SumReader", name := "takesFact", desc := "(I)Z" } : MethodName) ∈ ztb := zt_in3 (List.mem_of_getElem? (i := 49) rfl) rfl
theorem zw_449 : Cond.selects "MissingLamps$SumReader" ({ cls := "MissingLamps$SumReader", name := "takesFact", desc := "(I)Z" } : MethodName) ({ cls := "MissingLamps$SumReader", name := "takesFact", desc := "(I)Z" } : MethodName) ∈ ztb := zs_in1 (q := (⟨"MissingLamps$SumReader", "takesFact", "(I)Z"⟩, 3)) (List.mem_of_getElem? (i := 9) rfl) rfl
theorem zw_450 : Cond.methodLink "MissingLamps$SumReader" (43 : Nat) ({ cls := "MissingLamps$SumReader", name := "opens", desc := "(IZ)Z" } : MethodName) ∈ ztb := zt_in3 (List.mem_of_getElem? (i := 24) rfl) rfl
theorem zw_451 : Cond.instanceMethod ({ cls := "MissingLamps$SumReader", name := "opens", desc := "(IZ)Z" } : MethodName) ∈ ztb := zt_in3 (List.mem_of_getElem? (i := 26) rfl) rfl
theorem zw_452 : Cond.selects "MissingLamps$SumReader" ({ cls := "MissingLamps$SumReader", name := "opens", desc := "(IZ)Z" } : MethodName) ({ cls := "MissingLamps$SumReader", name := "opens", desc := "(IZ)Z" } : MethodName) ∈ ztb := zs_in1 (q := (⟨"MissingLamps$SumReader", "opens", "(IZ)Z"⟩, 3)) (List.mem_of_getElem? (i := 4) rfl) rfl
theorem zw_453 : Cond.methodLink "MissingLamps$SumReader" (47 : Nat) ({ cls := "MissingLamps$Reader", name := "isSign", desc := "(I)Z" } : MethodName) ∈ ztb := zt_in3 (List.mem_of_getElem? (i := 23) rfl) rfl
theorem zw_454 : Cond.methodLink "MissingLamps$SumReader" (50 : Nat) ({ cls := "MissingLamps$SumReader", name := "takesTest", desc := "(I)Z" } : MethodName) ∈ ztb := zt_in3 (List.mem_of_getElem? (i := 39) rfl) rfl
theorem zw_455 : Cond.methodLink "MissingLamps$SumReader" (53 : Nat) ({ cls := "MissingLamps$Reader", name := "takesSign", desc := "(I)Z" } : MethodName) ∈ ztb := zt_in3 (List.mem_of_getElem? (i := 30) rfl) rfl
theorem zw_456 : Cond.methodLink "MissingLamps$SumReader" (56 : Nat) ({ cls := "MissingLamps$SumReader", name := "takesSum", desc := "(I)Z" } : MethodName) ∈ ztb := zt_in3 (List.mem_of_getElem? (i := 29) rfl) rfl
theorem zw_457 : Cond.methodLink "MissingLamps$SumReader" (59 : Nat) ({ cls := "MissingLamps$SumReader", name := "takesComparison", desc := "(I)Z" } : MethodName) ∈ ztb := zt_in3 (List.mem_of_getElem? (i := 52) rfl) rfl
theorem zw_458 : Cond.instanceMethod ({ cls := "MissingLamps$SumReader", name := "takesComparison", desc := "(I)Z" } : MethodName) ∈ ztb := zt_in3 (List.mem_of_getElem? (i := 54) rfl) rfl
theorem zw_459 : Cond.selects "MissingLamps$SumReader" ({ cls := "MissingLamps$SumReader", name := "takesComparison", desc := "(I)Z" } : MethodName) ({ cls := "MissingLamps$SumReader", name := "takesComparison", desc := "(I)Z" } : MethodName) ∈ ztb := zs_in1 (q := (⟨"MissingLamps$SumReader", "takesComparison", "(I)Z"⟩, 3)) (List.mem_of_getElem? (i := 10) rfl) rfl
theorem zw_460 : Cond.fieldLink "MissingLamps$SumReader" (62 : Nat) "MissingLamps$Reader" "value" "I" ∈ ztb := zt_in0 (List.mem_of_getElem? (i := 230) rfl) rfl
theorem zw_461 : Cond.fieldLink "MissingLamps$SumReader" (65 : Nat) "MissingLamps$Reader" "place" "I" ∈ ztb := zt_in0 (List.mem_of_getElem? (i := 235) rfl) rfl
theorem zw_462 : Cond.methodLink "MissingLamps$SumReader" (68 : Nat) ({ cls := "MissingLamps$Reader", name := "faults", desc := "(II)Z" } : MethodName) ∈ ztb := zt_in3 (List.mem_of_getElem? (i := 28) rfl) rfl
theorem zw_463 : Cond.methodLink "MissingLamps$SumReader" (72 : Nat) ({ cls := "MissingLamps$SumReader", name := "takesProduct", desc := "(I)Z" } : MethodName) ∈ ztb := zt_in3 (List.mem_of_getElem? (i := 10) rfl) rfl
theorem zw_464 : Cond.instanceMethod ({ cls := "MissingLamps$SumReader", name := "takesProduct", desc := "(I)Z" } : MethodName) ∈ ztb := zt_in3 (List.mem_of_getElem? (i := 12) rfl) rfl
theorem zw_465 : Cond.selects "MissingLamps$SumReader" ({ cls := "MissingLamps$SumReader", name := "takesProduct", desc := "(I)Z" } : MethodName) ({ cls := "MissingLamps$SumReader", name := "takesProduct", desc := "(I)Z" } : MethodName) ∈ ztb := zs_in1 (q := (⟨"MissingLamps$SumReader", "takesProduct", "(I)Z"⟩, 3)) (List.mem_of_getElem? (i := 2) rfl) rfl
theorem zw_466 : Cond.methodLink "MissingLamps$SumReader" (75 : Nat) ({ cls := "MissingLamps$SumReader", name := "takesPart", desc := "(I)Z" } : MethodName) ∈ ztb := zt_in3 (List.mem_of_getElem? (i := 14) rfl) rfl
theorem zw_467 : Cond.instanceMethod ({ cls := "MissingLamps$SumReader", name := "takesPart", desc := "(I)Z" } : MethodName) ∈ ztb := zt_in3 (List.mem_of_getElem? (i := 16) rfl) rfl
theorem zw_468 : Cond.selects "MissingLamps$SumReader" ({ cls := "MissingLamps$SumReader", name := "takesPart", desc := "(I)Z" } : MethodName) ({ cls := "MissingLamps$SumReader", name := "takesPart", desc := "(I)Z" } : MethodName) ∈ ztb := zs_in1 (q := (⟨"MissingLamps$SumReader", "takesPart", "(I)Z"⟩, 3)) (List.mem_of_getElem? (i := 3) rfl) rfl
theorem zw_469 : Cond.methodLink "MissingLamps$SumReader" (78 : Nat) ({ cls := "MissingLamps$SumReader", name := "isFactorSign", desc := "()Z" } : MethodName) ∈ ztb := zt_in3 (List.mem_of_getElem? (i := 56) rfl) rfl
theorem zw_470 : Cond.instanceMethod ({ cls := "MissingLamps$SumReader", name := "isFactorSign", desc := "()Z" } : MethodName) ∈ ztb := zt_in3 (List.mem_of_getElem? (i := 58) rfl) rfl
theorem zw_471 : Cond.selects "MissingLamps$SumReader" ({ cls := "MissingLamps$SumReader", name := "isFactorSign", desc := "()Z" } : MethodName) ({ cls := "MissingLamps$SumReader", name := "isFactorSign", desc := "()Z" } : MethodName) ∈ ztb := zs_in1 (q := (⟨"MissingLamps$SumReader", "isFactorSign", "()Z"⟩, 3)) (List.mem_of_getElem? (i := 11) rfl) rfl
theorem zw_472 : Cond.fieldLink "MissingLamps$SumReader" (82 : Nat) "MissingLamps$Reader" "kind" "I" ∈ ztb := zt_in0 (List.mem_of_getElem? (i := 228) rfl) rfl
theorem zw_473 : Cond.methodLink "MissingLamps$SumReader" (85 : Nat) ({ cls := "MissingLamps$SumReader", name := "isValue", desc := "(I)Z" } : MethodName) ∈ ztb := zt_in3 (List.mem_of_getElem? (i := 31) rfl) rfl
theorem zw_474 : Cond.instanceMethod ({ cls := "MissingLamps$SumReader", name := "isValue", desc := "(I)Z" } : MethodName) ∈ ztb := zt_in3 (List.mem_of_getElem? (i := 33) rfl) rfl
theorem zw_475 : Cond.selects "MissingLamps$SumReader" ({ cls := "MissingLamps$SumReader", name := "isValue", desc := "(I)Z" } : MethodName) ({ cls := "MissingLamps$SumReader", name := "isValue", desc := "(I)Z" } : MethodName) ∈ ztb := zs_in1 (q := (⟨"MissingLamps$SumReader", "isValue", "(I)Z"⟩, 3)) (List.mem_of_getElem? (i := 5) rfl) rfl
theorem zw_476 : Cond.methodLink "MissingLamps$SumReader" (88 : Nat) ({ cls := "MissingLamps$SumReader", name := "takesPair", desc := "(I)Z" } : MethodName) ∈ ztb := zt_in3 (List.mem_of_getElem? (i := 35) rfl) rfl
theorem zw_477 : Cond.instanceMethod ({ cls := "MissingLamps$SumReader", name := "takesPair", desc := "(I)Z" } : MethodName) ∈ ztb := zt_in3 (List.mem_of_getElem? (i := 37) rfl) rfl
theorem zw_478 : Cond.selects "MissingLamps$SumReader" ({ cls := "MissingLamps$SumReader", name := "takesPair", desc := "(I)Z" } : MethodName) ({ cls := "MissingLamps$SumReader", name := "takesPair", desc := "(I)Z" } : MethodName) ∈ ztb := zs_in1 (q := (⟨"MissingLamps$SumReader", "takesPair", "(I)Z"⟩, 3)) (List.mem_of_getElem? (i := 6) rfl) rfl
theorem zw_479 : Cond.methodLink "MissingLamps" (3 : Nat) ({ cls := "java/lang/Object", name := "<init>", desc := "()V" } : MethodName) ∈ ztb := zt_in0 (List.mem_of_getElem? (i := 27) rfl) rfl
theorem zw_480 : Cond.fieldLink "MissingLamps" (9 : Nat) "MissingLamps" "tape" "[I" ∈ ztb := zt_in2 (List.mem_of_getElem? (i := 28) rfl) rfl
theorem zw_481 : Cond.fieldLink "MissingLamps" (13 : Nat) "MissingLamps" "faultPlace" "I" ∈ ztb := zt_in2 (List.mem_of_getElem? (i := 31) rfl) rfl
theorem zw_482 : Cond.classLink "MissingLamps" (17 : Nat) "MissingLamps$Quay" ∈ ztb := zt_in0 (List.mem_of_getElem? (i := 30) rfl) rfl
theorem zw_483 : Cond.instantiable "MissingLamps$Quay" (18 : Nat) ∈ ztb := zt_in0 (List.mem_of_getElem? (i := 31) rfl) rfl
theorem zw_484 : Cond.initialized "MissingLamps$Quay" ∈ ztb := zt_in0 (List.mem_of_getElem? (i := 2) rfl) rfl
theorem zw_485 : Cond.instanceMethod ({ cls := "MissingLamps$Quay", name := "<init>", desc := "()V" } : MethodName) ∈ ztb := zt_in0 (List.mem_of_getElem? (i := 33) rfl) rfl
theorem zw_486 : Cond.fieldLink "MissingLamps" (20 : Nat) "MissingLamps" "plan" "LMissingLamps$Quay;" ∈ ztb := zt_in2 (List.mem_of_getElem? (i := 32) rfl) rfl
theorem zw_487 : Cond.fieldLink "MissingLamps" (24 : Nat) "MissingLamps" "spare" "LMissingLamps$Quay;" ∈ ztb := zt_in2 (List.mem_of_getElem? (i := 33) rfl) rfl
theorem zw_488 : Cond.classLink "MissingLamps" (27 : Nat) "MissingLamps$StatementReader" ∈ ztb := zt_in0 (List.mem_of_getElem? (i := 161) rfl) rfl
theorem zw_489 : Cond.instantiable "MissingLamps$StatementReader" (4 : Nat) ∈ ztb := zt_in0 (List.mem_of_getElem? (i := 162) rfl) rfl
theorem zw_490 : Cond.initialized "MissingLamps$StatementReader" ∈ ztb := zt_in0 (List.mem_of_getElem? (i := 4) rfl) rfl
theorem zw_491 : Cond.methodLink "MissingLamps" (29 : Nat) ({ cls := "MissingLamps$StatementReader", name := "<init>", desc := "(LMissingLamps$Quay;)V" } : MethodName) ∈ ztb := zt_in0 (List.mem_of_getElem? (i := 163) rfl) rfl
theorem zw_492 : Cond.instanceMethod ({ cls := "MissingLamps$StatementReader", name := "<init>", desc := "(LMissingLamps$Quay;)V" } : MethodName) ∈ ztb := zt_in0 (List.mem_of_getElem? (i := 164) rfl) rfl
theorem zw_493 : Cond.fieldLink "MissingLamps" (32 : Nat) "MissingLamps" "statements" "LMissingLamps$StatementReader;" ∈ ztb := zt_in2 (List.mem_of_getElem? (i := 34) rfl) rfl
theorem zw_494 : Cond.classLink "MissingLamps" (36 : Nat) "MissingLamps$State" ∈ ztb := zt_in1 (List.mem_of_getElem? (i := 60) rfl) rfl
theorem zw_495 : Cond.fieldLink "MissingLamps" (39 : Nat) "MissingLamps" "now" "LMissingLamps$State;" ∈ ztb := zt_in2 (List.mem_of_getElem? (i := 35) rfl) rfl
theorem zw_496 : Cond.classLink "MissingLamps" (43 : Nat) "MissingLamps$KeptRows" ∈ ztb := zt_in1 (List.mem_of_getElem? (i := 104) rfl) rfl
theorem zw_497 : Cond.fieldLink "MissingLamps" (46 : Nat) "MissingLamps" "keptRows" "LMissingLamps$KeptRows;" ∈ ztb := zt_in2 (List.mem_of_getElem? (i := 36) rfl) rfl
theorem zw_498 : Cond.classLink "MissingLamps" (50 : Nat) "MissingLamps$Past" ∈ ztb := zt_in1 (List.mem_of_getElem? (i := 127) rfl) rfl
theorem zw_499 : Cond.instantiable "MissingLamps$Past" (4 : Nat) ∈ ztb := zt_in1 (List.mem_of_getElem? (i := 128) rfl) rfl
theorem zw_500 : Cond.initialized "MissingLamps$Past" ∈ ztb := zt_in0 (List.mem_of_getElem? (i := 13) rfl) rfl
theorem zw_501 : Cond.methodLink "MissingLamps" (52 : Nat) ({ cls := "MissingLamps$Past", name := "<init>", desc := "()V" } : MethodName) ∈ ztb := zt_in1 (List.mem_of_getElem? (i := 129) rfl) rfl
theorem zw_502 : Cond.instanceMethod ({ cls := "MissingLamps$Past", name := "<init>", desc := "()V" } : MethodName) ∈ ztb := zt_in1 (List.mem_of_getElem? (i := 130) rfl) rfl
theorem zw_503 : Cond.fieldLink "MissingLamps" (53 : Nat) "MissingLamps" "past" "LMissingLamps$Past;" ∈ ztb := zt_in2 (List.mem_of_getElem? (i := 37) rfl) rfl
theorem zw_504 : Cond.classLink "MissingLamps" (57 : Nat) "MissingLamps$Harbour" ∈ ztb := zt_in1 (List.mem_of_getElem? (i := 153) rfl) rfl
theorem zw_505 : Cond.instantiable "MissingLamps$Harbour" (5 : Nat) ∈ ztb := zt_in1 (List.mem_of_getElem? (i := 154) rfl) rfl
theorem zw_506 : Cond.initialized "MissingLamps$Harbour" ∈ ztb := zt_in0 (List.mem_of_getElem? (i := 14) rfl) rfl
theorem zw_507 : Cond.methodLink "MissingLamps" (59 : Nat) ({ cls := "MissingLamps$Harbour", name := "<init>", desc := "(LMissingLamps$Quay;)V" } : MethodName) ∈ ztb := zt_in1 (List.mem_of_getElem? (i := 155) rfl) rfl
theorem zw_508 : Cond.instanceMethod ({ cls := "MissingLamps$Harbour", name := "<init>", desc := "(LMissingLamps$Quay;)V" } : MethodName) ∈ ztb := zt_in1 (List.mem_of_getElem? (i := 156) rfl) rfl
theorem zw_509 : Cond.fieldLink "MissingLamps" (60 : Nat) "MissingLamps" "harbour" "LMissingLamps$Harbour;" ∈ ztb := zt_in2 (List.mem_of_getElem? (i := 38) rfl) rfl
theorem zw_510 : Cond.classLink "MissingLamps" (64 : Nat) "MissingLamps$Planner" ∈ ztb := zt_in1 (List.mem_of_getElem? (i := 213) rfl) rfl
theorem zw_511 : Cond.instantiable "MissingLamps$Planner" (13 : Nat) ∈ ztb := zt_in1 (List.mem_of_getElem? (i := 214) rfl) rfl
theorem zw_512 : Cond.initialized "MissingLamps$Planner" ∈ ztb := zt_in0 (List.mem_of_getElem? (i := 16) rfl) rfl
theorem zw_513 : Cond.methodLink "MissingLamps" (66 : Nat) ({ cls := "MissingLamps$Planner", name := "<init>", desc := "(LMissingLamps$Harbour;)V" } : MethodName) ∈ ztb := zt_in1 (List.mem_of_getElem? (i := 215) rfl) rfl
theorem zw_514 : Cond.instanceMethod ({ cls := "MissingLamps$Planner", name := "<init>", desc := "(LMissingLamps$Harbour;)V" } : MethodName) ∈ ztb := zt_in1 (List.mem_of_getElem? (i := 216) rfl) rfl
theorem zw_515 : Cond.fieldLink "MissingLamps" (69 : Nat) "MissingLamps" "planner" "LMissingLamps$Planner;" ∈ ztb := zt_in2 (List.mem_of_getElem? (i := 39) rfl) rfl
theorem zw_516 : Cond.fieldLink "MissingLamps" (73 : Nat) "MissingLamps" "imageBytes" "[I" ∈ ztb := zt_in2 (List.mem_of_getElem? (i := 40) rfl) rfl
theorem zw_517 : Cond.fieldLink "MissingLamps" (76 : Nat) "MissingLamps" "refusals" "[I" ∈ ztb := zt_in2 (List.mem_of_getElem? (i := 42) rfl) rfl
theorem zw_518 : Cond.fieldLink "MissingLamps" (79 : Nat) "MissingLamps" "drawn" "I" ∈ ztb := zt_in2 (List.mem_of_getElem? (i := 43) rfl) rfl
theorem zw_519 : Cond.fieldLink "MissingLamps" (82 : Nat) "MissingLamps" "tapeSize" "I" ∈ ztb := zt_in2 (List.mem_of_getElem? (i := 29) rfl) rfl
theorem zw_520 : Cond.methodLink "MissingLamps" (85 : Nat) ({ cls := "MissingLamps", name := "refuse", desc := "(I)I" } : MethodName) ∈ ztb := zt_in2 (List.mem_of_getElem? (i := 81) rfl) rfl
theorem zw_521 : Cond.instanceMethod ({ cls := "MissingLamps", name := "refuse", desc := "(I)I" } : MethodName) ∈ ztb := zt_in2 (List.mem_of_getElem? (i := 83) rfl) rfl
theorem zw_522 : Cond.selects "MissingLamps" ({ cls := "MissingLamps", name := "refuse", desc := "(I)I" } : MethodName) ({ cls := "MissingLamps", name := "refuse", desc := "(I)I" } : MethodName) ∈ ztb := zs_in0 (q := (⟨"MissingLamps", "refuse", "(I)I"⟩, 16)) (List.mem_of_getElem? (i := 0) rfl) rfl
theorem zw_523 : Cond.methodLink "MissingLamps" (89 : Nat) ({ cls := "MissingLamps", name := "putOnTape", desc := "(I)V" } : MethodName) ∈ ztb := zt_in2 (List.mem_of_getElem? (i := 85) rfl) rfl
theorem zw_524 : Cond.instanceMethod ({ cls := "MissingLamps", name := "putOnTape", desc := "(I)V" } : MethodName) ∈ ztb := zt_in2 (List.mem_of_getElem? (i := 87) rfl) rfl
theorem zw_525 : Cond.selects "MissingLamps" ({ cls := "MissingLamps", name := "putOnTape", desc := "(I)V" } : MethodName) ({ cls := "MissingLamps", name := "putOnTape", desc := "(I)V" } : MethodName) ∈ ztb := zs_in0 (q := (⟨"MissingLamps", "putOnTape", "(I)V"⟩, 16)) (List.mem_of_getElem? (i := 1) rfl) rfl
theorem zw_526 : Cond.methodLink "MissingLamps" (93 : Nat) ({ cls := "MissingLamps", name := "refused", desc := "(I)Z" } : MethodName) ∈ ztb := zt_in2 (List.mem_of_getElem? (i := 93) rfl) rfl
theorem zw_527 : Cond.instanceMethod ({ cls := "MissingLamps", name := "refused", desc := "(I)Z" } : MethodName) ∈ ztb := zt_in2 (List.mem_of_getElem? (i := 95) rfl) rfl
theorem zw_528 : Cond.selects "MissingLamps" ({ cls := "MissingLamps", name := "refused", desc := "(I)Z" } : MethodName) ({ cls := "MissingLamps", name := "refused", desc := "(I)Z" } : MethodName) ∈ ztb := zs_in0 (q := (⟨"MissingLamps", "refused", "(I)Z"⟩, 16)) (List.mem_of_getElem? (i := 2) rfl) rfl
theorem zw_529 : Cond.methodLink "MissingLamps" (97 : Nat) ({ cls := "MissingLamps", name := "takeTape", desc := "()I" } : MethodName) ∈ ztb := zt_in2 (List.mem_of_getElem? (i := 101) rfl) rfl
theorem zw_530 : Cond.instanceMethod ({ cls := "MissingLamps", name := "takeTape", desc := "()I" } : MethodName) ∈ ztb := zt_in2 (List.mem_of_getElem? (i := 103) rfl) rfl
theorem zw_531 : Cond.selects "MissingLamps" ({ cls := "MissingLamps", name := "takeTape", desc := "()I" } : MethodName) ({ cls := "MissingLamps", name := "takeTape", desc := "()I" } : MethodName) ∈ ztb := zs_in0 (q := (⟨"MissingLamps", "takeTape", "()I"⟩, 16)) (List.mem_of_getElem? (i := 3) rfl) rfl
theorem zw_532 : Cond.methodLink "MissingLamps" (101 : Nat) ({ cls := "MissingLamps$StatementReader", name := "reads", desc := "([IILMissingLamps$Quay;)Z" } : MethodName) ∈ ztb := zt_in2 (List.mem_of_getElem? (i := 105) rfl) rfl
theorem zw_533 : Cond.instanceMethod ({ cls := "MissingLamps$StatementReader", name := "reads", desc := "([IILMissingLamps$Quay;)Z" } : MethodName) ∈ ztb := zt_in2 (List.mem_of_getElem? (i := 106) rfl) rfl
theorem zw_534 : Cond.selects "MissingLamps$StatementReader" ({ cls := "MissingLamps$StatementReader", name := "reads", desc := "([IILMissingLamps$Quay;)Z" } : MethodName) ({ cls := "MissingLamps$StatementReader", name := "reads", desc := "([IILMissingLamps$Quay;)Z" } : MethodName) ∈ ztb := zt_in2 (List.mem_of_getElem? (i := 107) rfl) rfl
theorem zw_535 : Cond.methodLink "MissingLamps" (105 : Nat) ({ cls := "MissingLamps$StatementReader", name := "faultKind", desc := "()I" } : MethodName) ∈ ztb := zt_in3 (List.mem_of_getElem? (i := 65) rfl) rfl
theorem zw_536 : Cond.instanceMethod ({ cls := "MissingLamps$StatementReader", name := "faultKind", desc := "()I" } : MethodName) ∈ ztb := zt_in3 (List.mem_of_getElem? (i := 66) rfl) rfl
theorem zw_537 : Cond.selects "MissingLamps$StatementReader" ({ cls := "MissingLamps$StatementReader", name := "faultKind", desc := "()I" } : MethodName) ({ cls := "MissingLamps$StatementReader", name := "faultKind", desc := "()I" } : MethodName) ∈ ztb := zt_in3 (List.mem_of_getElem? (i := 67) rfl) rfl
theorem zw_538 : Cond.fieldLink "MissingLamps" (108 : Nat) "MissingLamps" "faultKind" "I" ∈ ztb := zt_in2 (List.mem_of_getElem? (i := 30) rfl) rfl
theorem zw_539 : Cond.methodLink "MissingLamps" (110 : Nat) ({ cls := "MissingLamps$StatementReader", name := "faultPlace", desc := "()I" } : MethodName) ∈ ztb := zt_in3 (List.mem_of_getElem? (i := 69) rfl) rfl
theorem zw_540 : Cond.instanceMethod ({ cls := "MissingLamps$StatementReader", name := "faultPlace", desc := "()I" } : MethodName) ∈ ztb := zt_in3 (List.mem_of_getElem? (i := 70) rfl) rfl
theorem zw_541 : Cond.selects "MissingLamps$StatementReader" ({ cls := "MissingLamps$StatementReader", name := "faultPlace", desc := "()I" } : MethodName) ({ cls := "MissingLamps$StatementReader", name := "faultPlace", desc := "()I" } : MethodName) ∈ ztb := zt_in3 (List.mem_of_getElem? (i := 71) rfl) rfl
theorem zw_542 : Cond.methodLink "MissingLamps" (112 : Nat) ({ cls := "MissingLamps$Harbour", name := "moveTo", desc := "(LMissingLamps$Quay;)V" } : MethodName) ∈ ztb := zt_in3 (List.mem_of_getElem? (i := 73) rfl) rfl
theorem zw_543 : Cond.instanceMethod ({ cls := "MissingLamps$Harbour", name := "moveTo", desc := "(LMissingLamps$Quay;)V" } : MethodName) ∈ ztb := zt_in3 (List.mem_of_getElem? (i := 74) rfl) rfl
theorem zw_544 : Cond.selects "MissingLamps$Harbour" ({ cls := "MissingLamps$Harbour", name := "moveTo", desc := "(LMissingLamps$Quay;)V" } : MethodName) ({ cls := "MissingLamps$Harbour", name := "moveTo", desc := "(LMissingLamps$Quay;)V" } : MethodName) ∈ ztb := zt_in3 (List.mem_of_getElem? (i := 75) rfl) rfl
theorem zw_545 : Cond.methodLink "MissingLamps" (115 : Nat) ({ cls := "MissingLamps$Quay", name := "setFirst", desc := "(LMissingLamps$State;)V" } : MethodName) ∈ ztb := zt_in3 (List.mem_of_getElem? (i := 77) rfl) rfl
theorem zw_546 : Cond.instanceMethod ({ cls := "MissingLamps$Quay", name := "setFirst", desc := "(LMissingLamps$State;)V" } : MethodName) ∈ ztb := zt_in3 (List.mem_of_getElem? (i := 78) rfl) rfl
theorem zw_547 : Cond.selects "MissingLamps$Quay" ({ cls := "MissingLamps$Quay", name := "setFirst", desc := "(LMissingLamps$State;)V" } : MethodName) ({ cls := "MissingLamps$Quay", name := "setFirst", desc := "(LMissingLamps$State;)V" } : MethodName) ∈ ztb := zt_in3 (List.mem_of_getElem? (i := 79) rfl) rfl
theorem zw_548 : Cond.methodLink "MissingLamps" (119 : Nat) ({ cls := "MissingLamps", name := "forgetActs", desc := "()V" } : MethodName) ∈ ztb := zt_in3 (List.mem_of_getElem? (i := 84) rfl) rfl
theorem zw_549 : Cond.instanceMethod ({ cls := "MissingLamps", name := "forgetActs", desc := "()V" } : MethodName) ∈ ztb := zt_in3 (List.mem_of_getElem? (i := 86) rfl) rfl
theorem zw_550 : Cond.selects "MissingLamps" ({ cls := "MissingLamps", name := "forgetActs", desc := "()V" } : MethodName) ({ cls := "MissingLamps", name := "forgetActs", desc := "()V" } : MethodName) ∈ ztb := zs_in1 (q := (⟨"MissingLamps", "forgetActs", "()V"⟩, 16)) (List.mem_of_getElem? (i := 12) rfl) rfl
theorem zw_551 : Cond.methodLink "MissingLamps" (122 : Nat) ({ cls := "MissingLamps$Planner", name := "forgetMet", desc := "()V" } : MethodName) ∈ ztb := zt_in3 (List.mem_of_getElem? (i := 88) rfl) rfl
theorem zw_552 : Cond.instanceMethod ({ cls := "MissingLamps$Planner", name := "forgetMet", desc := "()V" } : MethodName) ∈ ztb := zt_in3 (List.mem_of_getElem? (i := 89) rfl) rfl
theorem zw_553 : Cond.selects "MissingLamps$Planner" ({ cls := "MissingLamps$Planner", name := "forgetMet", desc := "()V" } : MethodName) ({ cls := "MissingLamps$Planner", name := "forgetMet", desc := "()V" } : MethodName) ∈ ztb := zt_in3 (List.mem_of_getElem? (i := 90) rfl) rfl
theorem zw_554 : Cond.fieldLink "MissingLamps" (125 : Nat) "MissingLamps$Quay" "statements" "I" ∈ ztb := zt_in0 (List.mem_of_getElem? (i := 61) rfl) rfl
theorem zw_555 : Cond.fieldLink "MissingLamps" (127 : Nat) "MissingLamps$Quay" "columns" "I" ∈ ztb := zt_in0 (List.mem_of_getElem? (i := 63) rfl) rfl
theorem zw_556 : Cond.fieldLink "MissingLamps" (130 : Nat) "MissingLamps$Quay" "rows" "I" ∈ ztb := zt_in0 (List.mem_of_getElem? (i := 66) rfl) rfl
theorem zw_557 : Cond.fieldLink "MissingLamps" (133 : Nat) "MissingLamps$Quay" "walls" "J" ∈ ztb := zt_in0 (List.mem_of_getElem? (i := 80) rfl) rfl
theorem zw_558 : Cond.methodLink "MissingLamps" (137 : Nat) ({ cls := "java/lang/Long", name := "bitCount", desc := "(J)I" } : MethodName) ∈ ztb := zt_in3 (List.mem_of_getElem? (i := 100) rfl) rfl
theorem zw_559 : Cond.static ({ cls := "java/lang/Long", name := "bitCount", desc := "(J)I" } : MethodName) ∈ ztb := zt_in3 (List.mem_of_getElem? (i := 101) rfl) rfl
theorem zw_560 : Cond.fieldLink "MissingLamps" (143 : Nat) "MissingLamps$Quay" "things" "I" ∈ ztb := zt_in0 (List.mem_of_getElem? (i := 86) rfl) rfl
theorem zw_561 : Cond.fieldLink "MissingLamps" (146 : Nat) "MissingLamps$Quay" "folk" "I" ∈ ztb := zt_in0 (List.mem_of_getElem? (i := 108) rfl) rfl
theorem zw_562 : Cond.fieldLink "MissingLamps" (149 : Nat) "MissingLamps$State" "night" "I" ∈ ztb := zt_in1 (List.mem_of_getElem? (i := 69) rfl) rfl
theorem zw_563 : Cond.fieldLink "MissingLamps" (152 : Nat) "MissingLamps$State" "missing" "I" ∈ ztb := zt_in1 (List.mem_of_getElem? (i := 74) rfl) rfl
theorem zw_564 : Cond.methodLink "MissingLamps" (155 : Nat) ({ cls := "java/lang/Integer", name := "bitCount", desc := "(I)I" } : MethodName) ∈ ztb := zt_in3 (List.mem_of_getElem? (i := 106) rfl) rfl
theorem zw_565 : Cond.methodLink "MissingLamps" (159 : Nat) ({ cls := "MissingLamps$Harbour", name := "lit", desc := "(LMissingLamps$State;I)J" } : MethodName) ∈ ztb := zt_in3 (List.mem_of_getElem? (i := 112) rfl) rfl
theorem zw_566 : Cond.methodLink "MissingLamps" (163 : Nat) ({ cls := "MissingLamps$Harbour", name := "countAtHome", desc := "(LMissingLamps$State;)I" } : MethodName) ∈ ztb := zt_in3 (List.mem_of_getElem? (i := 173) rfl) rfl
theorem zw_567 : Cond.fieldLink "MissingLamps" (167 : Nat) "MissingLamps$KeptRows" "size" "I" ∈ ztb := zt_in1 (List.mem_of_getElem? (i := 117) rfl) rfl
theorem zw_568 : Cond.fieldLink "MissingLamps" (170 : Nat) "MissingLamps$Planner" "metCount" "I" ∈ ztb := zt_in1 (List.mem_of_getElem? (i := 233) rfl) rfl
theorem zw_569 : Cond.fieldLink "MissingLamps" (173 : Nat) "MissingLamps$Past" "size" "I" ∈ ztb := zt_in1 (List.mem_of_getElem? (i := 143) rfl) rfl
theorem zw_570 : Cond.methodLink "MissingLamps" (174 : Nat) ({ cls := "MissingLamps", name := "isThing", desc := "(I)Z" } : MethodName) ∈ ztb := zt_in3 (List.mem_of_getElem? (i := 185) rfl) rfl
theorem zw_571 : Cond.instanceMethod ({ cls := "MissingLamps", name := "isThing", desc := "(I)Z" } : MethodName) ∈ ztb := zt_in3 (List.mem_of_getElem? (i := 187) rfl) rfl
theorem zw_572 : Cond.selects "MissingLamps" ({ cls := "MissingLamps", name := "isThing", desc := "(I)Z" } : MethodName) ({ cls := "MissingLamps", name := "isThing", desc := "(I)Z" } : MethodName) ∈ ztb := zs_in2 (q := (⟨"MissingLamps", "isThing", "(I)Z"⟩, 16)) (List.mem_of_getElem? (i := 0) rfl) rfl
theorem zw_573 : Cond.fieldLink "MissingLamps" (177 : Nat) "MissingLamps$Quay" "thingNames" "[I" ∈ ztb := zt_in0 (List.mem_of_getElem? (i := 89) rfl) rfl
theorem zw_574 : Cond.methodLink "MissingLamps" (180 : Nat) ({ cls := "MissingLamps", name := "letterOf", desc := "(II)I" } : MethodName) ∈ ztb := zt_in3 (List.mem_of_getElem? (i := 189) rfl) rfl
theorem zw_575 : Cond.static ({ cls := "MissingLamps", name := "letterOf", desc := "(II)I" } : MethodName) ∈ ztb := zt_in3 (List.mem_of_getElem? (i := 190) rfl) rfl
theorem zw_576 : Cond.methodLink "MissingLamps" (184 : Nat) ({ cls := "MissingLamps", name := "isFolk", desc := "(I)Z" } : MethodName) ∈ ztb := zt_in3 (List.mem_of_getElem? (i := 192) rfl) rfl
theorem zw_577 : Cond.instanceMethod ({ cls := "MissingLamps", name := "isFolk", desc := "(I)Z" } : MethodName) ∈ ztb := zt_in3 (List.mem_of_getElem? (i := 194) rfl) rfl
theorem zw_578 : Cond.selects "MissingLamps" ({ cls := "MissingLamps", name := "isFolk", desc := "(I)Z" } : MethodName) ({ cls := "MissingLamps", name := "isFolk", desc := "(I)Z" } : MethodName) ∈ ztb := zs_in2 (q := (⟨"MissingLamps", "isFolk", "(I)Z"⟩, 16)) (List.mem_of_getElem? (i := 1) rfl) rfl
theorem zw_579 : Cond.fieldLink "MissingLamps" (187 : Nat) "MissingLamps$Quay" "folkNames" "[I" ∈ ztb := zt_in0 (List.mem_of_getElem? (i := 112) rfl) rfl
theorem zw_580 : Cond.methodLink "MissingLamps" (190 : Nat) ({ cls := "MissingLamps$Quay", name := "hasCell", desc := "(II)Z" } : MethodName) ∈ ztb := zt_in3 (List.mem_of_getElem? (i := 200) rfl) rfl
theorem zw_581 : Cond.methodLink "MissingLamps" (194 : Nat) ({ cls := "MissingLamps", name := "placeOf", desc := "(II)I" } : MethodName) ∈ ztb := zt_in3 (List.mem_of_getElem? (i := 204) rfl) rfl
theorem zw_582 : Cond.methodLink "MissingLamps" (197 : Nat) ({ cls := "MissingLamps", name := "bitOf", desc := "(I)J" } : MethodName) ∈ ztb := zt_in3 (List.mem_of_getElem? (i := 205) rfl) rfl
theorem zw_583 : Cond.methodLink "MissingLamps" (201 : Nat) ({ cls := "MissingLamps$Harbour", name := "countLanterns", desc := "(LMissingLamps$State;J)I" } : MethodName) ∈ ztb := zt_in3 (List.mem_of_getElem? (i := 206) rfl) rfl
theorem zw_584 : Cond.instanceMethod ({ cls := "MissingLamps$Harbour", name := "countLanterns", desc := "(LMissingLamps$State;J)I" } : MethodName) ∈ ztb := zt_in3 (List.mem_of_getElem? (i := 207) rfl) rfl
theorem zw_585 : Cond.selects "MissingLamps$Harbour" ({ cls := "MissingLamps$Harbour", name := "countLanterns", desc := "(LMissingLamps$State;J)I" } : MethodName) ({ cls := "MissingLamps$Harbour", name := "countLanterns", desc := "(LMissingLamps$State;J)I" } : MethodName) ∈ ztb := zt_in3 (List.mem_of_getElem? (i := 208) rfl) rfl
theorem zw_586 : Cond.fieldLink "MissingLamps" (205 : Nat) "MissingLamps$Quay" "thingPlaces" "[I" ∈ ztb := zt_in0 (List.mem_of_getElem? (i := 94) rfl) rfl
theorem zw_587 : Cond.methodLink "MissingLamps" (208 : Nat) ({ cls := "MissingLamps", name := "columnOf", desc := "(I)I" } : MethodName) ∈ ztb := zt_in3 (List.mem_of_getElem? (i := 214) rfl) rfl
theorem zw_588 : Cond.static ({ cls := "MissingLamps", name := "columnOf", desc := "(I)I" } : MethodName) ∈ ztb := zt_in3 (List.mem_of_getElem? (i := 215) rfl) rfl
theorem zw_589 : Cond.methodLink "MissingLamps" (211 : Nat) ({ cls := "MissingLamps", name := "rowOf", desc := "(I)I" } : MethodName) ∈ ztb := zt_in3 (List.mem_of_getElem? (i := 217) rfl) rfl
theorem zw_590 : Cond.static ({ cls := "MissingLamps", name := "rowOf", desc := "(I)I" } : MethodName) ∈ ztb := zt_in3 (List.mem_of_getElem? (i := 218) rfl) rfl
theorem zw_591 : Cond.fieldLink "MissingLamps" (214 : Nat) "MissingLamps$Quay" "thingHues" "[I" ∈ ztb := zt_in0 (List.mem_of_getElem? (i := 97) rfl) rfl
theorem zw_592 : Cond.fieldLink "MissingLamps" (217 : Nat) "MissingLamps$Quay" "thingHighs" "[I" ∈ ztb := zt_in0 (List.mem_of_getElem? (i := 101) rfl) rfl
theorem zw_593 : Cond.methodLink "MissingLamps" (220 : Nat) ({ cls := "MissingLamps$State", name := "isMissing", desc := "(I)Z" } : MethodName) ∈ ztb := zt_in3 (List.mem_of_getElem? (i := 220) rfl) rfl
theorem zw_594 : Cond.fieldLink "MissingLamps" (223 : Nat) "MissingLamps$State" "ages" "[I" ∈ ztb := zt_in1 (List.mem_of_getElem? (i := 78) rfl) rfl
theorem zw_595 : Cond.methodLink "MissingLamps" (226 : Nat) ({ cls := "MissingLamps$Harbour", name := "glow", desc := "(LMissingLamps$State;I)I" } : MethodName) ∈ ztb := zt_in3 (List.mem_of_getElem? (i := 221) rfl) rfl
theorem zw_596 : Cond.fieldLink "MissingLamps" (230 : Nat) "MissingLamps$State" "places" "[I" ∈ ztb := zt_in1 (List.mem_of_getElem? (i := 83) rfl) rfl
theorem zw_597 : Cond.fieldLink "MissingLamps" (233 : Nat) "MissingLamps$Quay" "homes" "[I" ∈ ztb := zt_in0 (List.mem_of_getElem? (i := 118) rfl) rfl
theorem zw_598 : Cond.methodLink "MissingLamps" (236 : Nat) ({ cls := "MissingLamps$Harbour", name := "road", desc := "(IIJ)I" } : MethodName) ∈ ztb := zt_in3 (List.mem_of_getElem? (i := 226) rfl) rfl
theorem zw_599 : Cond.methodLink "MissingLamps" (240 : Nat) ({ cls := "MissingLamps", name := "comes", desc := "(II)Z" } : MethodName) ∈ ztb := zt_in3 (List.mem_of_getElem? (i := 234) rfl) rfl
theorem zw_600 : Cond.instanceMethod ({ cls := "MissingLamps", name := "comes", desc := "(II)Z" } : MethodName) ∈ ztb := zt_in3 (List.mem_of_getElem? (i := 236) rfl) rfl
theorem zw_601 : Cond.selects "MissingLamps" ({ cls := "MissingLamps", name := "comes", desc := "(II)Z" } : MethodName) ({ cls := "MissingLamps", name := "comes", desc := "(II)Z" } : MethodName) ∈ ztb := zs_in2 (q := (⟨"MissingLamps", "comes", "(II)Z"⟩, 16)) (List.mem_of_getElem? (i := 2) rfl) rfl
theorem zw_602 : Cond.methodLink "MissingLamps" (243 : Nat) ({ cls := "MissingLamps$Planner", name := "behind", desc := "(LMissingLamps$State;I)LMissingLamps$State;" } : MethodName) ∈ ztb := zt_in3 (List.mem_of_getElem? (i := 238) rfl) rfl
theorem zw_603 : Cond.instanceMethod ({ cls := "MissingLamps$Planner", name := "behind", desc := "(LMissingLamps$State;I)LMissingLamps$State;" } : MethodName) ∈ ztb := zt_in3 (List.mem_of_getElem? (i := 239) rfl) rfl
theorem zw_604 : Cond.selects "MissingLamps$Planner" ({ cls := "MissingLamps$Planner", name := "behind", desc := "(LMissingLamps$State;I)LMissingLamps$State;" } : MethodName) ({ cls := "MissingLamps$Planner", name := "behind", desc := "(LMissingLamps$State;I)LMissingLamps$State;" } : MethodName) ∈ ztb := zt_in4 (List.mem_of_getElem? (i := 0) rfl) rfl
theorem zw_605 : Cond.methodLink "MissingLamps" (247 : Nat) ({ cls := "MissingLamps$Planner", name := "nightsTillHome", desc := "(LMissingLamps$State;I)I" } : MethodName) ∈ ztb := zt_in4 (List.mem_of_getElem? (i := 40) rfl) rfl
theorem zw_606 : Cond.instanceMethod ({ cls := "MissingLamps$Planner", name := "nightsTillHome", desc := "(LMissingLamps$State;I)I" } : MethodName) ∈ ztb := zt_in4 (List.mem_of_getElem? (i := 41) rfl) rfl
theorem zw_607 : Cond.selects "MissingLamps$Planner" ({ cls := "MissingLamps$Planner", name := "nightsTillHome", desc := "(LMissingLamps$State;I)I" } : MethodName) ({ cls := "MissingLamps$Planner", name := "nightsTillHome", desc := "(LMissingLamps$State;I)I" } : MethodName) ∈ ztb := zt_in4 (List.mem_of_getElem? (i := 42) rfl) rfl
theorem zw_608 : Cond.methodLink "MissingLamps" (250 : Nat) ({ cls := "MissingLamps$Planner", name := "leastLosses", desc := "(LMissingLamps$State;II)I" } : MethodName) ∈ ztb := zt_in4 (List.mem_of_getElem? (i := 54) rfl) rfl
theorem zw_609 : Cond.instanceMethod ({ cls := "MissingLamps$Planner", name := "leastLosses", desc := "(LMissingLamps$State;II)I" } : MethodName) ∈ ztb := zt_in4 (List.mem_of_getElem? (i := 55) rfl) rfl
theorem zw_610 : Cond.selects "MissingLamps$Planner" ({ cls := "MissingLamps$Planner", name := "leastLosses", desc := "(LMissingLamps$State;II)I" } : MethodName) ({ cls := "MissingLamps$Planner", name := "leastLosses", desc := "(LMissingLamps$State;II)I" } : MethodName) ∈ ztb := zt_in4 (List.mem_of_getElem? (i := 56) rfl) rfl
theorem zw_611 : Cond.methodLink "MissingLamps" (254 : Nat) ({ cls := "MissingLamps$Planner", name := "worstFound", desc := "(LMissingLamps$State;IZ)I" } : MethodName) ∈ ztb := zt_in4 (List.mem_of_getElem? (i := 70) rfl) rfl
theorem zw_612 : Cond.instanceMethod ({ cls := "MissingLamps$Planner", name := "worstFound", desc := "(LMissingLamps$State;IZ)I" } : MethodName) ∈ ztb := zt_in4 (List.mem_of_getElem? (i := 71) rfl) rfl
theorem zw_613 : Cond.selects "MissingLamps$Planner" ({ cls := "MissingLamps$Planner", name := "worstFound", desc := "(LMissingLamps$State;IZ)I" } : MethodName) ({ cls := "MissingLamps$Planner", name := "worstFound", desc := "(LMissingLamps$State;IZ)I" } : MethodName) ∈ ztb := zt_in4 (List.mem_of_getElem? (i := 72) rfl) rfl
theorem zw_614 : Cond.methodLink "MissingLamps" (258 : Nat) ({ cls := "MissingLamps$Planner", name := "leastCover", desc := "(LMissingLamps$State;)I" } : MethodName) ∈ ztb := zt_in4 (List.mem_of_getElem? (i := 80) rfl) rfl
theorem zw_615 : Cond.instanceMethod ({ cls := "MissingLamps$Planner", name := "leastCover", desc := "(LMissingLamps$State;)I" } : MethodName) ∈ ztb := zt_in4 (List.mem_of_getElem? (i := 81) rfl) rfl
theorem zw_616 : Cond.selects "MissingLamps$Planner" ({ cls := "MissingLamps$Planner", name := "leastCover", desc := "(LMissingLamps$State;)I" } : MethodName) ({ cls := "MissingLamps$Planner", name := "leastCover", desc := "(LMissingLamps$State;)I" } : MethodName) ∈ ztb := zt_in4 (List.mem_of_getElem? (i := 82) rfl) rfl
theorem zw_617 : Cond.methodLink "MissingLamps" (261 : Nat) ({ cls := "MissingLamps$Planner", name := "arrange", desc := "(LMissingLamps$State;)V" } : MethodName) ∈ ztb := zt_in4 (List.mem_of_getElem? (i := 94) rfl) rfl
theorem zw_618 : Cond.instanceMethod ({ cls := "MissingLamps$Planner", name := "arrange", desc := "(LMissingLamps$State;)V" } : MethodName) ∈ ztb := zt_in4 (List.mem_of_getElem? (i := 95) rfl) rfl
theorem zw_619 : Cond.selects "MissingLamps$Planner" ({ cls := "MissingLamps$Planner", name := "arrange", desc := "(LMissingLamps$State;)V" } : MethodName) ({ cls := "MissingLamps$Planner", name := "arrange", desc := "(LMissingLamps$State;)V" } : MethodName) ∈ ztb := zt_in4 (List.mem_of_getElem? (i := 96) rfl) rfl
theorem zw_620 : Cond.fieldLink "MissingLamps" (264 : Nat) "MissingLamps$Planner" "sentCount" "I" ∈ ztb := zt_in1 (List.mem_of_getElem? (i := 229) rfl) rfl
theorem zw_621 : Cond.fieldLink "MissingLamps" (267 : Nat) "MissingLamps$Planner" "sentSteps" "I" ∈ ztb := zt_in1 (List.mem_of_getElem? (i := 231) rfl) rfl
theorem zw_622 : Cond.fieldLink "MissingLamps" (270 : Nat) "MissingLamps$Planner" "sentThings" "[I" ∈ ztb := zt_in1 (List.mem_of_getElem? (i := 227) rfl) rfl
theorem zw_623 : Cond.methodLink "MissingLamps" (273 : Nat) ({ cls := "MissingLamps$Planner", name := "rowsToHome", desc := "(LMissingLamps$State;I)I" } : MethodName) ∈ ztb := zt_in4 (List.mem_of_getElem? (i := 121) rfl) rfl
theorem zw_624 : Cond.instanceMethod ({ cls := "MissingLamps$Planner", name := "rowsToHome", desc := "(LMissingLamps$State;I)I" } : MethodName) ∈ ztb := zt_in4 (List.mem_of_getElem? (i := 122) rfl) rfl
theorem zw_625 : Cond.selects "MissingLamps$Planner" ({ cls := "MissingLamps$Planner", name := "rowsToHome", desc := "(LMissingLamps$State;I)I" } : MethodName) ({ cls := "MissingLamps$Planner", name := "rowsToHome", desc := "(LMissingLamps$State;I)I" } : MethodName) ∈ ztb := zt_in4 (List.mem_of_getElem? (i := 123) rfl) rfl
theorem zw_626 : Cond.methodLink "MissingLamps" (276 : Nat) ({ cls := "MissingLamps$Planner", name := "takesMet", desc := "([II)Z" } : MethodName) ∈ ztb := zt_in4 (List.mem_of_getElem? (i := 131) rfl) rfl
theorem zw_627 : Cond.instanceMethod ({ cls := "MissingLamps$Planner", name := "takesMet", desc := "([II)Z" } : MethodName) ∈ ztb := zt_in4 (List.mem_of_getElem? (i := 132) rfl) rfl
theorem zw_628 : Cond.selects "MissingLamps$Planner" ({ cls := "MissingLamps$Planner", name := "takesMet", desc := "([II)Z" } : MethodName) ({ cls := "MissingLamps$Planner", name := "takesMet", desc := "([II)Z" } : MethodName) ∈ ztb := zt_in4 (List.mem_of_getElem? (i := 133) rfl) rfl
theorem zw_629 : Cond.methodLink "MissingLamps" (280 : Nat) ({ cls := "MissingLamps$Planner", name := "huesLeft", desc := "(LMissingLamps$State;I)I" } : MethodName) ∈ ztb := zt_in4 (List.mem_of_getElem? (i := 141) rfl) rfl
theorem zw_630 : Cond.instanceMethod ({ cls := "MissingLamps$Planner", name := "huesLeft", desc := "(LMissingLamps$State;I)I" } : MethodName) ∈ ztb := zt_in4 (List.mem_of_getElem? (i := 142) rfl) rfl
theorem zw_631 : Cond.selects "MissingLamps$Planner" ({ cls := "MissingLamps$Planner", name := "huesLeft", desc := "(LMissingLamps$State;I)I" } : MethodName) ({ cls := "MissingLamps$Planner", name := "huesLeft", desc := "(LMissingLamps$State;I)I" } : MethodName) ∈ ztb := zt_in4 (List.mem_of_getElem? (i := 143) rfl) rfl
theorem zw_632 : Cond.methodLink "MissingLamps" (283 : Nat) ({ cls := "MissingLamps$Planner", name := "findTelling", desc := "(LMissingLamps$State;II)V" } : MethodName) ∈ ztb := zt_in4 (List.mem_of_getElem? (i := 158) rfl) rfl
theorem zw_633 : Cond.instanceMethod ({ cls := "MissingLamps$Planner", name := "findTelling", desc := "(LMissingLamps$State;II)V" } : MethodName) ∈ ztb := zt_in4 (List.mem_of_getElem? (i := 159) rfl) rfl
theorem zw_634 : Cond.selects "MissingLamps$Planner" ({ cls := "MissingLamps$Planner", name := "findTelling", desc := "(LMissingLamps$State;II)V" } : MethodName) ({ cls := "MissingLamps$Planner", name := "findTelling", desc := "(LMissingLamps$State;II)V" } : MethodName) ∈ ztb := zt_in4 (List.mem_of_getElem? (i := 160) rfl) rfl
theorem zw_635 : Cond.fieldLink "MissingLamps" (287 : Nat) "MissingLamps$Planner" "tellingNights" "I" ∈ ztb := zt_in1 (List.mem_of_getElem? (i := 236) rfl) rfl
theorem zw_636 : Cond.fieldLink "MissingLamps" (290 : Nat) "MissingLamps$Planner" "tellingFolk" "I" ∈ ztb := zt_in1 (List.mem_of_getElem? (i := 238) rfl) rfl
theorem zw_637 : Cond.fieldLink "MissingLamps" (293 : Nat) "MissingLamps$Planner" "tellingLeft" "I" ∈ ztb := zt_in2 (List.mem_of_getElem? (i := 0) rfl) rfl
theorem zw_638 : Cond.methodLink "MissingLamps" (296 : Nat) ({ cls := "MissingLamps$Past", name := "push", desc := "(LMissingLamps$State;LMissingLamps$KeptRows;)V" } : MethodName) ∈ ztb := zt_in4 (List.mem_of_getElem? (i := 174) rfl) rfl
theorem zw_639 : Cond.instanceMethod ({ cls := "MissingLamps$Past", name := "push", desc := "(LMissingLamps$State;LMissingLamps$KeptRows;)V" } : MethodName) ∈ ztb := zt_in4 (List.mem_of_getElem? (i := 175) rfl) rfl
theorem zw_640 : Cond.selects "MissingLamps$Past" ({ cls := "MissingLamps$Past", name := "push", desc := "(LMissingLamps$State;LMissingLamps$KeptRows;)V" } : MethodName) ({ cls := "MissingLamps$Past", name := "push", desc := "(LMissingLamps$State;LMissingLamps$KeptRows;)V" } : MethodName) ∈ ztb := zt_in4 (List.mem_of_getElem? (i := 176) rfl) rfl
theorem zw_641 : Cond.methodLink "MissingLamps" (300 : Nat) ({ cls := "MissingLamps", name := "passAndKeep", desc := "(I)I" } : MethodName) ∈ ztb := zt_in4 (List.mem_of_getElem? (i := 185) rfl) rfl
theorem zw_642 : Cond.instanceMethod ({ cls := "MissingLamps", name := "passAndKeep", desc := "(I)I" } : MethodName) ∈ ztb := zt_in4 (List.mem_of_getElem? (i := 187) rfl) rfl
theorem zw_643 : Cond.selects "MissingLamps" ({ cls := "MissingLamps", name := "passAndKeep", desc := "(I)I" } : MethodName) ({ cls := "MissingLamps", name := "passAndKeep", desc := "(I)I" } : MethodName) ∈ ztb := zs_in3 (q := (⟨"MissingLamps", "passAndKeep", "(I)I"⟩, 16)) (List.mem_of_getElem? (i := 0) rfl) rfl
theorem zw_644 : Cond.methodLink "MissingLamps" (303 : Nat) ({ cls := "MissingLamps", name := "drawDark", desc := "()I" } : MethodName) ∈ ztb := zt_in4 (List.mem_of_getElem? (i := 198) rfl) rfl
theorem zw_645 : Cond.instanceMethod ({ cls := "MissingLamps", name := "drawDark", desc := "()I" } : MethodName) ∈ ztb := zt_in4 (List.mem_of_getElem? (i := 200) rfl) rfl
theorem zw_646 : Cond.selects "MissingLamps" ({ cls := "MissingLamps", name := "drawDark", desc := "()I" } : MethodName) ({ cls := "MissingLamps", name := "drawDark", desc := "()I" } : MethodName) ∈ ztb := zs_in3 (q := (⟨"MissingLamps", "drawDark", "()I"⟩, 16)) (List.mem_of_getElem? (i := 1) rfl) rfl
theorem zw_647 : Cond.methodLink "MissingLamps" (306 : Nat) ({ cls := "MissingLamps", name := "turnByAct", desc := "(I)V" } : MethodName) ∈ ztb := zt_in4 (List.mem_of_getElem? (i := 213) rfl) rfl
theorem zw_648 : Cond.instanceMethod ({ cls := "MissingLamps", name := "turnByAct", desc := "(I)V" } : MethodName) ∈ ztb := zt_in4 (List.mem_of_getElem? (i := 215) rfl) rfl
theorem zw_649 : Cond.selects "MissingLamps" ({ cls := "MissingLamps", name := "turnByAct", desc := "(I)V" } : MethodName) ({ cls := "MissingLamps", name := "turnByAct", desc := "(I)V" } : MethodName) ∈ ztb := zs_in3 (q := (⟨"MissingLamps", "turnByAct", "(I)V"⟩, 16)) (List.mem_of_getElem? (i := 3) rfl) rfl
theorem zw_650 : Cond.methodLink "MissingLamps" (309 : Nat) ({ cls := "MissingLamps$Quay", name := "hasFreeCell", desc := "(II)Z" } : MethodName) ∈ ztb := zt_in4 (List.mem_of_getElem? (i := 226) rfl) rfl
theorem zw_651 : Cond.instanceMethod ({ cls := "MissingLamps$Quay", name := "hasFreeCell", desc := "(II)Z" } : MethodName) ∈ ztb := zt_in4 (List.mem_of_getElem? (i := 227) rfl) rfl
theorem zw_652 : Cond.selects "MissingLamps$Quay" ({ cls := "MissingLamps$Quay", name := "hasFreeCell", desc := "(II)Z" } : MethodName) ({ cls := "MissingLamps$Quay", name := "hasFreeCell", desc := "(II)Z" } : MethodName) ∈ ztb := zt_in4 (List.mem_of_getElem? (i := 228) rfl) rfl
theorem zw_653 : Cond.methodLink "MissingLamps" (312 : Nat) ({ cls := "MissingLamps$Past", name := "pop", desc := "(LMissingLamps$State;LMissingLamps$KeptRows;)V" } : MethodName) ∈ ztb := zt_in4 (List.mem_of_getElem? (i := 236) rfl) rfl
theorem zw_654 : Cond.instanceMethod ({ cls := "MissingLamps$Past", name := "pop", desc := "(LMissingLamps$State;LMissingLamps$KeptRows;)V" } : MethodName) ∈ ztb := zt_in4 (List.mem_of_getElem? (i := 237) rfl) rfl
theorem zw_655 : Cond.selects "MissingLamps$Past" ({ cls := "MissingLamps$Past", name := "pop", desc := "(LMissingLamps$State;LMissingLamps$KeptRows;)V" } : MethodName) ({ cls := "MissingLamps$Past", name := "pop", desc := "(LMissingLamps$State;LMissingLamps$KeptRows;)V" } : MethodName) ∈ ztb := zt_in4 (List.mem_of_getElem? (i := 238) rfl) rfl
theorem zw_656 : Cond.fieldLink "MissingLamps" (315 : Nat) "MissingLamps$KeptRows" "nights" "[I" ∈ ztb := zt_in1 (List.mem_of_getElem? (i := 111) rfl) rfl
theorem zw_657 : Cond.fieldLink "MissingLamps" (318 : Nat) "MissingLamps$KeptRows" "things" "[I" ∈ ztb := zt_in1 (List.mem_of_getElem? (i := 113) rfl) rfl
theorem zw_658 : Cond.fieldLink "MissingLamps" (320 : Nat) "MissingLamps$KeptRows" "founds" "[I" ∈ ztb := zt_in1 (List.mem_of_getElem? (i := 115) rfl) rfl
theorem zw_659 : Cond.methodLink "MissingLamps" (323 : Nat) ({ cls := "MissingLamps", name := "checkOf", desc := "([II)I" } : MethodName) ∈ ztb := zt_in5 (List.mem_of_getElem? (i := 12) rfl) rfl
theorem zw_660 : Cond.static ({ cls := "MissingLamps", name := "checkOf", desc := "([II)I" } : MethodName) ∈ ztb := zt_in5 (List.mem_of_getElem? (i := 13) rfl) rfl
theorem zw_661 : Cond.fieldLink "MissingLamps" (327 : Nat) "MissingLamps" "imageSize" "I" ∈ ztb := zt_in2 (List.mem_of_getElem? (i := 41) rfl) rfl
theorem zw_662 : Cond.methodLink "MissingLamps" (330 : Nat) ({ cls := "MissingLamps", name := "holdsImage", desc := "(I)Z" } : MethodName) ∈ ztb := zt_in5 (List.mem_of_getElem? (i := 23) rfl) rfl
theorem zw_663 : Cond.instanceMethod ({ cls := "MissingLamps", name := "holdsImage", desc := "(I)Z" } : MethodName) ∈ ztb := zt_in5 (List.mem_of_getElem? (i := 25) rfl) rfl
theorem zw_664 : Cond.selects "MissingLamps" ({ cls := "MissingLamps", name := "holdsImage", desc := "(I)Z" } : MethodName) ({ cls := "MissingLamps", name := "holdsImage", desc := "(I)Z" } : MethodName) ∈ ztb := zs_in3 (q := (⟨"MissingLamps", "holdsImage", "(I)Z"⟩, 16)) (List.mem_of_getElem? (i := 4) rfl) rfl
theorem zw_665 : Cond.methodLink "MissingLamps" (333 : Nat) ({ cls := "MissingLamps", name := "nightOnTape", desc := "()I" } : MethodName) ∈ ztb := zt_in5 (List.mem_of_getElem? (i := 27) rfl) rfl
theorem zw_666 : Cond.instanceMethod ({ cls := "MissingLamps", name := "nightOnTape", desc := "()I" } : MethodName) ∈ ztb := zt_in5 (List.mem_of_getElem? (i := 29) rfl) rfl
theorem zw_667 : Cond.selects "MissingLamps" ({ cls := "MissingLamps", name := "nightOnTape", desc := "()I" } : MethodName) ({ cls := "MissingLamps", name := "nightOnTape", desc := "()I" } : MethodName) ∈ ztb := zs_in3 (q := (⟨"MissingLamps", "nightOnTape", "()I"⟩, 16)) (List.mem_of_getElem? (i := 5) rfl) rfl
theorem zw_668 : Cond.methodLink "MissingLamps" (336 : Nat) ({ cls := "MissingLamps$KeptRows", name := "add", desc := "(III)V" } : MethodName) ∈ ztb := zt_in4 (List.mem_of_getElem? (i := 190) rfl) rfl
theorem zw_669 : Cond.instanceMethod ({ cls := "MissingLamps$KeptRows", name := "add", desc := "(III)V" } : MethodName) ∈ ztb := zt_in4 (List.mem_of_getElem? (i := 191) rfl) rfl
theorem zw_670 : Cond.selects "MissingLamps$KeptRows" ({ cls := "MissingLamps$KeptRows", name := "add", desc := "(III)V" } : MethodName) ({ cls := "MissingLamps$KeptRows", name := "add", desc := "(III)V" } : MethodName) ∈ ztb := zt_in4 (List.mem_of_getElem? (i := 192) rfl) rfl
theorem zw_671 : Cond.methodLink "MissingLamps" (340 : Nat) ({ cls := "MissingLamps$State", name := "turn", desc := "(I)V" } : MethodName) ∈ ztb := zt_in4 (List.mem_of_getElem? (i := 217) rfl) rfl
theorem zw_672 : Cond.methodLink "MissingLamps" (343 : Nat) ({ cls := "MissingLamps$Harbour", name := "pass", desc := "(LMissingLamps$State;II)V" } : MethodName) ∈ ztb := zt_in4 (List.mem_of_getElem? (i := 189) rfl) rfl
theorem zw_673 : Cond.fieldLink "MissingLamps" (346 : Nat) "MissingLamps$Harbour" "foundThings" "I" ∈ ztb := zt_in1 (List.mem_of_getElem? (i := 198) rfl) rfl
theorem zw_674 : Cond.fieldLink "MissingLamps" (349 : Nat) "MissingLamps$Harbour" "lostThings" "I" ∈ ztb := zt_in1 (List.mem_of_getElem? (i := 200) rfl) rfl
theorem zw_675 : Cond.methodLink "MissingLamps" (352 : Nat) ({ cls := "MissingLamps", name := "draw", desc := "(I)I" } : MethodName) ∈ ztb := zt_in4 (List.mem_of_getElem? (i := 202) rfl) rfl
theorem zw_676 : Cond.instanceMethod ({ cls := "MissingLamps", name := "draw", desc := "(I)I" } : MethodName) ∈ ztb := zt_in4 (List.mem_of_getElem? (i := 204) rfl) rfl
theorem zw_677 : Cond.selects "MissingLamps" ({ cls := "MissingLamps", name := "draw", desc := "(I)I" } : MethodName) ({ cls := "MissingLamps", name := "draw", desc := "(I)I" } : MethodName) ∈ ztb := zs_in3 (q := (⟨"MissingLamps", "draw", "(I)I"⟩, 16)) (List.mem_of_getElem? (i := 2) rfl) rfl
theorem zw_678 : Cond.fieldLink "MissingLamps" (355 : Nat) "MissingLamps$Quay" "gale" "I" ∈ ztb := zt_in0 (List.mem_of_getElem? (i := 74) rfl) rfl
theorem zw_679 : Cond.constantLong "MissingLamps" (358 : Nat) (1103515245 : Int64) ∈ ztb := zt_in4 (List.mem_of_getElem? (i := 206) rfl) rfl
theorem zw_680 : Cond.constantLong "MissingLamps" (360 : Nat) (12345 : Int64) ∈ ztb := zt_in4 (List.mem_of_getElem? (i := 207) rfl) rfl
theorem zw_681 : Cond.constantLong "MissingLamps" (362 : Nat) (2147483647 : Int64) ∈ ztb := zt_in4 (List.mem_of_getElem? (i := 208) rfl) rfl
theorem zw_682 : Cond.methodLink "MissingLampsModel" (1 : Nat) ({ cls := "java/lang/Object", name := "<init>", desc := "()V" } : MethodName) ∈ ztb := zt_in5 (List.mem_of_getElem? (i := 40) rfl) rfl
theorem zw_683 : Cond.fieldLink "MissingLampsModel" (7 : Nat) "MissingLampsModel" "tape" "[I" ∈ ztb := zt_in5 (List.mem_of_getElem? (i := 41) rfl) rfl
theorem zw_684 : Cond.fieldLink "MissingLampsModel" (13 : Nat) "MissingLampsModel" "taped" "I" ∈ ztb := zt_in5 (List.mem_of_getElem? (i := 42) rfl) rfl
theorem zw_685 : Cond.fieldLink "MissingLampsModel" (17 : Nat) "MissingLampsModel" "size" "I" ∈ ztb := zt_in5 (List.mem_of_getElem? (i := 43) rfl) rfl
theorem zw_686 : Cond.fieldLink "MissingLampsModel" (20 : Nat) "MissingLampsModel" "sign" "I" ∈ ztb := zt_in5 (List.mem_of_getElem? (i := 44) rfl) rfl
theorem zw_687 : Cond.fieldLink "MissingLampsModel" (23 : Nat) "MissingLampsModel" "signAt" "I" ∈ ztb := zt_in5 (List.mem_of_getElem? (i := 45) rfl) rfl
theorem zw_688 : Cond.fieldLink "MissingLampsModel" (26 : Nat) "MissingLampsModel" "signEnd" "I" ∈ ztb := zt_in5 (List.mem_of_getElem? (i := 46) rfl) rfl
theorem zw_689 : Cond.fieldLink "MissingLampsModel" (29 : Nat) "MissingLampsModel" "value" "I" ∈ ztb := zt_in5 (List.mem_of_getElem? (i := 47) rfl) rfl
theorem zw_690 : Cond.fieldLink "MissingLampsModel" (32 : Nat) "MissingLampsModel" "word" "J" ∈ ztb := zt_in5 (List.mem_of_getElem? (i := 48) rfl) rfl
theorem zw_691 : Cond.fieldLink "MissingLampsModel" (36 : Nat) "MissingLampsModel" "faultKind" "I" ∈ ztb := zt_in5 (List.mem_of_getElem? (i := 49) rfl) rfl
theorem zw_692 : Cond.fieldLink "MissingLampsModel" (39 : Nat) "MissingLampsModel" "faultPlace" "I" ∈ ztb := zt_in5 (List.mem_of_getElem? (i := 50) rfl) rfl
theorem zw_693 : Cond.fieldLink "MissingLampsModel" (42 : Nat) "MissingLampsModel" "toldKind" "I" ∈ ztb := zt_in5 (List.mem_of_getElem? (i := 51) rfl) rfl
theorem zw_694 : Cond.fieldLink "MissingLampsModel" (45 : Nat) "MissingLampsModel" "toldPlace" "I" ∈ ztb := zt_in5 (List.mem_of_getElem? (i := 52) rfl) rfl
theorem zw_695 : Cond.fieldLink "MissingLampsModel" (48 : Nat) "MissingLampsModel" "lexAt" "I" ∈ ztb := zt_in5 (List.mem_of_getElem? (i := 53) rfl) rfl
theorem zw_696 : Cond.fieldLink "MissingLampsModel" (51 : Nat) "MissingLampsModel" "bank" "I" ∈ ztb := zt_in5 (List.mem_of_getElem? (i := 54) rfl) rfl
theorem zw_697 : Cond.fieldLink "MissingLampsModel" (54 : Nat) "MissingLampsModel" "columns" "[I" ∈ ztb := zt_in5 (List.mem_of_getElem? (i := 55) rfl) rfl
theorem zw_698 : Cond.fieldLink "MissingLampsModel" (57 : Nat) "MissingLampsModel" "rows" "[I" ∈ ztb := zt_in5 (List.mem_of_getElem? (i := 56) rfl) rfl
theorem zw_699 : Cond.fieldLink "MissingLampsModel" (60 : Nat) "MissingLampsModel" "paceTold" "[I" ∈ ztb := zt_in5 (List.mem_of_getElem? (i := 57) rfl) rfl
theorem zw_700 : Cond.fieldLink "MissingLampsModel" (63 : Nat) "MissingLampsModel" "galeTold" "[I" ∈ ztb := zt_in5 (List.mem_of_getElem? (i := 58) rfl) rfl
theorem zw_701 : Cond.fieldLink "MissingLampsModel" (66 : Nat) "MissingLampsModel" "wallTold" "[I" ∈ ztb := zt_in5 (List.mem_of_getElem? (i := 59) rfl) rfl
theorem zw_702 : Cond.fieldLink "MissingLampsModel" (69 : Nat) "MissingLampsModel" "things" "[I" ∈ ztb := zt_in5 (List.mem_of_getElem? (i := 60) rfl) rfl
theorem zw_703 : Cond.fieldLink "MissingLampsModel" (72 : Nat) "MissingLampsModel" "thingAt" "[I" ∈ ztb := zt_in5 (List.mem_of_getElem? (i := 61) rfl) rfl
theorem zw_704 : Cond.fieldLink "MissingLampsModel" (75 : Nat) "MissingLampsModel" "hueTold" "[I" ∈ ztb := zt_in5 (List.mem_of_getElem? (i := 62) rfl) rfl
theorem zw_705 : Cond.fieldLink "MissingLampsModel" (78 : Nat) "MissingLampsModel" "highOf" "[I" ∈ ztb := zt_in5 (List.mem_of_getElem? (i := 63) rfl) rfl
theorem zw_706 : Cond.fieldLink "MissingLampsModel" (81 : Nat) "MissingLampsModel" "hasTold" "[I" ∈ ztb := zt_in5 (List.mem_of_getElem? (i := 64) rfl) rfl
theorem zw_707 : Cond.fieldLink "MissingLampsModel" (84 : Nat) "MissingLampsModel" "folks" "[I" ∈ ztb := zt_in5 (List.mem_of_getElem? (i := 65) rfl) rfl
theorem zw_708 : Cond.fieldLink "MissingLampsModel" (87 : Nat) "MissingLampsModel" "folkTold" "[I" ∈ ztb := zt_in5 (List.mem_of_getElem? (i := 66) rfl) rfl
theorem zw_709 : Cond.fieldLink "MissingLampsModel" (90 : Nat) "MissingLampsModel" "homeOf" "[I" ∈ ztb := zt_in5 (List.mem_of_getElem? (i := 67) rfl) rfl
theorem zw_710 : Cond.fieldLink "MissingLampsModel" (93 : Nat) "MissingLampsModel" "sumFrom" "[I" ∈ ztb := zt_in5 (List.mem_of_getElem? (i := 68) rfl) rfl
theorem zw_711 : Cond.fieldLink "MissingLampsModel" (96 : Nat) "MissingLampsModel" "sumBehind" "[I" ∈ ztb := zt_in5 (List.mem_of_getElem? (i := 69) rfl) rfl
theorem zw_712 : Cond.fieldLink "MissingLampsModel" (99 : Nat) "MissingLampsModel" "codeSort" "[I" ∈ ztb := zt_in5 (List.mem_of_getElem? (i := 70) rfl) rfl
theorem zw_713 : Cond.fieldLink "MissingLampsModel" (102 : Nat) "MissingLampsModel" "codeValue" "[I" ∈ ztb := zt_in5 (List.mem_of_getElem? (i := 71) rfl) rfl
theorem zw_714 : Cond.fieldLink "MissingLampsModel" (105 : Nat) "MissingLampsModel" "thingName" "[J" ∈ ztb := zt_in5 (List.mem_of_getElem? (i := 72) rfl) rfl
theorem zw_715 : Cond.fieldLink "MissingLampsModel" (109 : Nat) "MissingLampsModel" "folkName" "[J" ∈ ztb := zt_in5 (List.mem_of_getElem? (i := 73) rfl) rfl
theorem zw_716 : Cond.fieldLink "MissingLampsModel" (112 : Nat) "MissingLampsModel" "codes" "I" ∈ ztb := zt_in5 (List.mem_of_getElem? (i := 74) rfl) rfl
theorem zw_717 : Cond.fieldLink "MissingLampsModel" (115 : Nat) "MissingLampsModel" "in" "I" ∈ ztb := zt_in5 (List.mem_of_getElem? (i := 75) rfl) rfl
theorem zw_718 : Cond.fieldLink "MissingLampsModel" (118 : Nat) "MissingLampsModel" "law" "I" ∈ ztb := zt_in5 (List.mem_of_getElem? (i := 76) rfl) rfl
theorem zw_719 : Cond.fieldLink "MissingLampsModel" (121 : Nat) "MissingLampsModel" "frame" "[I" ∈ ztb := zt_in5 (List.mem_of_getElem? (i := 77) rfl) rfl
theorem zw_720 : Cond.fieldLink "MissingLampsModel" (124 : Nat) "MissingLampsModel" "phase" "[I" ∈ ztb := zt_in5 (List.mem_of_getElem? (i := 78) rfl) rfl
theorem zw_721 : Cond.arrayClass FieldType.boolean ∈ ztb := zt_in6 (List.mem_of_getElem? (i := 21) rfl) rfl
theorem zw_722 : Cond.fieldLink "MissingLampsModel" (127 : Nat) "MissingLampsModel" "begins" "[Z" ∈ ztb := zt_in5 (List.mem_of_getElem? (i := 79) rfl) rfl
theorem zw_723 : Cond.fieldLink "MissingLampsModel" (131 : Nat) "MissingLampsModel" "pair" "[I" ∈ ztb := zt_in5 (List.mem_of_getElem? (i := 80) rfl) rfl
theorem zw_724 : Cond.fieldLink "MissingLampsModel" (134 : Nat) "MissingLampsModel" "base" "[I" ∈ ztb := zt_in5 (List.mem_of_getElem? (i := 81) rfl) rfl
theorem zw_725 : Cond.fieldLink "MissingLampsModel" (137 : Nat) "MissingLampsModel" "deep" "I" ∈ ztb := zt_in5 (List.mem_of_getElem? (i := 82) rfl) rfl
theorem zw_726 : Cond.fieldLink "MissingLampsModel" (140 : Nat) "MissingLampsModel" "open" "I" ∈ ztb := zt_in5 (List.mem_of_getElem? (i := 83) rfl) rfl
theorem zw_727 : Cond.fieldLink "MissingLampsModel" (143 : Nat) "MissingLampsModel" "ops" "[I" ∈ ztb := zt_in5 (List.mem_of_getElem? (i := 84) rfl) rfl
theorem zw_728 : Cond.fieldLink "MissingLampsModel" (146 : Nat) "MissingLampsModel" "opMany" "I" ∈ ztb := zt_in5 (List.mem_of_getElem? (i := 85) rfl) rfl
theorem zw_729 : Cond.fieldLink "MissingLampsModel" (149 : Nat) "MissingLampsModel" "operand" "Z" ∈ ztb := zt_in5 (List.mem_of_getElem? (i := 86) rfl) rfl
theorem zw_730 : Cond.fieldLink "MissingLampsModel" (153 : Nat) "MissingLampsModel" "isQuay" "Z" ∈ ztb := zt_in5 (List.mem_of_getElem? (i := 87) rfl) rfl
theorem zw_731 : Cond.fieldLink "MissingLampsModel" (156 : Nat) "MissingLampsModel" "refused" "[I" ∈ ztb := zt_in5 (List.mem_of_getElem? (i := 88) rfl) rfl
theorem zw_732 : Cond.fieldLink "MissingLampsModel" (159 : Nat) "MissingLampsModel" "nightOf" "[I" ∈ ztb := zt_in5 (List.mem_of_getElem? (i := 89) rfl) rfl
theorem zw_733 : Cond.fieldLink "MissingLampsModel" (162 : Nat) "MissingLampsModel" "lostOf" "[I" ∈ ztb := zt_in5 (List.mem_of_getElem? (i := 90) rfl) rfl
theorem zw_734 : Cond.fieldLink "MissingLampsModel" (165 : Nat) "MissingLampsModel" "ageOf" "[I" ∈ ztb := zt_in5 (List.mem_of_getElem? (i := 91) rfl) rfl
theorem zw_735 : Cond.fieldLink "MissingLampsModel" (168 : Nat) "MissingLampsModel" "folkAt" "[I" ∈ ztb := zt_in5 (List.mem_of_getElem? (i := 92) rfl) rfl
theorem zw_736 : Cond.fieldLink "MissingLampsModel" (171 : Nat) "MissingLampsModel" "keptMany" "[I" ∈ ztb := zt_in5 (List.mem_of_getElem? (i := 93) rfl) rfl
theorem zw_737 : Cond.fieldLink "MissingLampsModel" (174 : Nat) "MissingLampsModel" "keptRow" "[I" ∈ ztb := zt_in5 (List.mem_of_getElem? (i := 94) rfl) rfl
theorem zw_738 : Cond.fieldLink "MissingLampsModel" (177 : Nat) "MissingLampsModel" "undoFirst" "I" ∈ ztb := zt_in5 (List.mem_of_getElem? (i := 95) rfl) rfl
theorem zw_739 : Cond.fieldLink "MissingLampsModel" (180 : Nat) "MissingLampsModel" "undos" "I" ∈ ztb := zt_in5 (List.mem_of_getElem? (i := 96) rfl) rfl
theorem zw_740 : Cond.fieldLink "MissingLampsModel" (183 : Nat) "MissingLampsModel" "seeds" "J" ∈ ztb := zt_in5 (List.mem_of_getElem? (i := 97) rfl) rfl
theorem zw_741 : Cond.fieldLink "MissingLampsModel" (186 : Nat) "MissingLampsModel" "hueOf" "[I" ∈ ztb := zt_in5 (List.mem_of_getElem? (i := 98) rfl) rfl
theorem zw_742 : Cond.fieldLink "MissingLampsModel" (189 : Nat) "MissingLampsModel" "stack" "[J" ∈ ztb := zt_in5 (List.mem_of_getElem? (i := 99) rfl) rfl
theorem zw_743 : Cond.fieldLink "MissingLampsModel" (192 : Nat) "MissingLampsModel" "asked" "[I" ∈ ztb := zt_in5 (List.mem_of_getElem? (i := 100) rfl) rfl
theorem zw_744 : Cond.fieldLink "MissingLampsModel" (195 : Nat) "MissingLampsModel" "litBy" "[I" ∈ ztb := zt_in5 (List.mem_of_getElem? (i := 101) rfl) rfl
theorem zw_745 : Cond.fieldLink "MissingLampsModel" (198 : Nat) "MissingLampsModel" "road" "[I" ∈ ztb := zt_in5 (List.mem_of_getElem? (i := 102) rfl) rfl
theorem zw_746 : Cond.fieldLink "MissingLampsModel" (201 : Nat) "MissingLampsModel" "queue" "[I" ∈ ztb := zt_in5 (List.mem_of_getElem? (i := 103) rfl) rfl
theorem zw_747 : Cond.fieldLink "MissingLampsModel" (204 : Nat) "MissingLampsModel" "lampsOn" "[I" ∈ ztb := zt_in5 (List.mem_of_getElem? (i := 104) rfl) rfl
theorem zw_748 : Cond.fieldLink "MissingLampsModel" (207 : Nat) "MissingLampsModel" "stepsTo" "[I" ∈ ztb := zt_in5 (List.mem_of_getElem? (i := 105) rfl) rfl
theorem zw_749 : Cond.fieldLink "MissingLampsModel" (210 : Nat) "MissingLampsModel" "leastFrom" "[I" ∈ ztb := zt_in5 (List.mem_of_getElem? (i := 106) rfl) rfl
theorem zw_750 : Cond.fieldLink "MissingLampsModel" (213 : Nat) "MissingLampsModel" "metMany" "I" ∈ ztb := zt_in5 (List.mem_of_getElem? (i := 107) rfl) rfl
theorem zw_751 : Cond.fieldLink "MissingLampsModel" (216 : Nat) "MissingLampsModel" "metNights" "[I" ∈ ztb := zt_in5 (List.mem_of_getElem? (i := 108) rfl) rfl
theorem zw_752 : Cond.fieldLink "MissingLampsModel" (219 : Nat) "MissingLampsModel" "metFolk" "[I" ∈ ztb := zt_in5 (List.mem_of_getElem? (i := 109) rfl) rfl
theorem zw_753 : Cond.fieldLink "MissingLampsModel" (222 : Nat) "MissingLampsModel" "metCell" "[I" ∈ ztb := zt_in5 (List.mem_of_getElem? (i := 110) rfl) rfl
theorem zw_754 : Cond.fieldLink "MissingLampsModel" (225 : Nat) "MissingLampsModel" "cellBy" "[I" ∈ ztb := zt_in5 (List.mem_of_getElem? (i := 111) rfl) rfl
theorem zw_755 : Cond.fieldLink "MissingLampsModel" (228 : Nat) "MissingLampsModel" "out" "[I" ∈ ztb := zt_in5 (List.mem_of_getElem? (i := 112) rfl) rfl
theorem zw_756 : Cond.fieldLink "MissingLampsModel" (231 : Nat) "MissingLampsModel" "outs" "I" ∈ ztb := zt_in5 (List.mem_of_getElem? (i := 113) rfl) rfl
theorem zw_757 : Cond.methodLink "MissingLampsModel" (234 : Nat) ({ cls := "MissingLampsModel", name := "refuses", desc := "(I)I" } : MethodName) ∈ ztb := zt_in6 (List.mem_of_getElem? (i := 26) rfl) rfl
theorem zw_758 : Cond.instanceMethod ({ cls := "MissingLampsModel", name := "refuses", desc := "(I)I" } : MethodName) ∈ ztb := zt_in6 (List.mem_of_getElem? (i := 28) rfl) rfl
theorem zw_759 : Cond.selects "MissingLampsModel" ({ cls := "MissingLampsModel", name := "refuses", desc := "(I)I" } : MethodName) ({ cls := "MissingLampsModel", name := "refuses", desc := "(I)I" } : MethodName) ∈ ztb := zs_in3 (q := (⟨"MissingLampsModel", "refuses", "(I)I"⟩, 73)) (List.mem_of_getElem? (i := 6) rfl) rfl
theorem zw_760 : Cond.methodLink "MissingLampsModel" (238 : Nat) ({ cls := "MissingLampsModel", name := "put", desc := "(I)V" } : MethodName) ∈ ztb := zt_in6 (List.mem_of_getElem? (i := 30) rfl) rfl
theorem zw_761 : Cond.instanceMethod ({ cls := "MissingLampsModel", name := "put", desc := "(I)V" } : MethodName) ∈ ztb := zt_in6 (List.mem_of_getElem? (i := 32) rfl) rfl
theorem zw_762 : Cond.selects "MissingLampsModel" ({ cls := "MissingLampsModel", name := "put", desc := "(I)V" } : MethodName) ({ cls := "MissingLampsModel", name := "put", desc := "(I)V" } : MethodName) ∈ ztb := zs_in3 (q := (⟨"MissingLampsModel", "put", "(I)V"⟩, 73)) (List.mem_of_getElem? (i := 7) rfl) rfl
theorem zw_763 : Cond.methodLink "MissingLampsModel" (242 : Nat) ({ cls := "MissingLampsModel", name := "blame", desc := "(II)V" } : MethodName) ∈ ztb := zt_in6 (List.mem_of_getElem? (i := 65) rfl) rfl
theorem zw_764 : Cond.instanceMethod ({ cls := "MissingLampsModel", name := "blame", desc := "(II)V" } : MethodName) ∈ ztb := zt_in6 (List.mem_of_getElem? (i := 67) rfl) rfl
theorem zw_765 : Cond.selects "MissingLampsModel" ({ cls := "MissingLampsModel", name := "blame", desc := "(II)V" } : MethodName) ({ cls := "MissingLampsModel", name := "blame", desc := "(II)V" } : MethodName) ∈ ztb := zs_in3 (q := (⟨"MissingLampsModel", "blame", "(II)V"⟩, 73)) (List.mem_of_getElem? (i := 12) rfl) rfl
theorem zw_766 : Cond.methodLink "MissingLampsModel" (246 : Nat) ({ cls := "MissingLampsModel", name := "isLetter", desc := "(I)Z" } : MethodName) ∈ ztb := zt_in6 (List.mem_of_getElem? (i := 46) rfl) rfl
theorem zw_767 : Cond.static ({ cls := "MissingLampsModel", name := "isLetter", desc := "(I)Z" } : MethodName) ∈ ztb := zt_in6 (List.mem_of_getElem? (i := 47) rfl) rfl
theorem zw_768 : Cond.methodLink "MissingLampsModel" (250 : Nat) ({ cls := "MissingLampsModel", name := "isDigit", desc := "(I)Z" } : MethodName) ∈ ztb := zt_in6 (List.mem_of_getElem? (i := 49) rfl) rfl
theorem zw_769 : Cond.static ({ cls := "MissingLampsModel", name := "isDigit", desc := "(I)Z" } : MethodName) ∈ ztb := zt_in6 (List.mem_of_getElem? (i := 50) rfl) rfl
theorem zw_770 : Cond.methodLink "MissingLampsModel" (253 : Nat) ({ cls := "MissingLampsModel", name := "lex", desc := "()V" } : MethodName) ∈ ztb := zt_in6 (List.mem_of_getElem? (i := 61) rfl) rfl
theorem zw_771 : Cond.instanceMethod ({ cls := "MissingLampsModel", name := "lex", desc := "()V" } : MethodName) ∈ ztb := zt_in6 (List.mem_of_getElem? (i := 63) rfl) rfl
theorem zw_772 : Cond.selects "MissingLampsModel" ({ cls := "MissingLampsModel", name := "lex", desc := "()V" } : MethodName) ({ cls := "MissingLampsModel", name := "lex", desc := "()V" } : MethodName) ∈ ztb := zs_in3 (q := (⟨"MissingLampsModel", "lex", "()V"⟩, 73)) (List.mem_of_getElem? (i := 11) rfl) rfl
theorem zw_773 : Cond.methodLink "MissingLampsModel" (256 : Nat) ({ cls := "MissingLampsModel", name := "isSign", desc := "(I)Z" } : MethodName) ∈ ztb := zt_in6 (List.mem_of_getElem? (i := 85) rfl) rfl
theorem zw_774 : Cond.instanceMethod ({ cls := "MissingLampsModel", name := "isSign", desc := "(I)Z" } : MethodName) ∈ ztb := zt_in6 (List.mem_of_getElem? (i := 87) rfl) rfl
theorem zw_775 : Cond.selects "MissingLampsModel" ({ cls := "MissingLampsModel", name := "isSign", desc := "(I)Z" } : MethodName) ({ cls := "MissingLampsModel", name := "isSign", desc := "(I)Z" } : MethodName) ∈ ztb := zs_in4 (q := (⟨"MissingLampsModel", "isSign", "(I)Z"⟩, 73)) (List.mem_of_getElem? (i := 0) rfl) rfl
theorem zw_776 : Cond.methodLink "MissingLampsModel" (259 : Nat) ({ cls := "MissingLampsModel", name := "ahead", desc := "()V" } : MethodName) ∈ ztb := zt_in6 (List.mem_of_getElem? (i := 42) rfl) rfl
theorem zw_777 : Cond.instanceMethod ({ cls := "MissingLampsModel", name := "ahead", desc := "()V" } : MethodName) ∈ ztb := zt_in6 (List.mem_of_getElem? (i := 44) rfl) rfl
theorem zw_778 : Cond.selects "MissingLampsModel" ({ cls := "MissingLampsModel", name := "ahead", desc := "()V" } : MethodName) ({ cls := "MissingLampsModel", name := "ahead", desc := "()V" } : MethodName) ∈ ztb := zs_in3 (q := (⟨"MissingLampsModel", "ahead", "()V"⟩, 73)) (List.mem_of_getElem? (i := 8) rfl) rfl
theorem zw_779 : Cond.constantLong "MissingLampsModel" (262 : Nat) (1903518073 : Int64) ∈ ztb := zt_in6 (List.mem_of_getElem? (i := 56) rfl) rfl
theorem zw_780 : Cond.constantLong "MissingLampsModel" (264 : Nat) (25209 : Int64) ∈ ztb := zt_in6 (List.mem_of_getElem? (i := 80) rfl) rfl
theorem zw_781 : Cond.constantLong "MissingLampsModel" (266 : Nat) (1885430629 : Int64) ∈ ztb := zt_in6 (List.mem_of_getElem? (i := 97) rfl) rfl
theorem zw_782 : Cond.constantLong "MissingLampsModel" (268 : Nat) (1734437989 : Int64) ∈ ztb := zt_in6 (List.mem_of_getElem? (i := 106) rfl) rfl
theorem zw_783 : Cond.constantLong "MissingLampsModel" (270 : Nat) (2002873452 : Int64) ∈ ztb := zt_in6 (List.mem_of_getElem? (i := 107) rfl) rfl
theorem zw_784 : Cond.constantLong "MissingLampsModel" (272 : Nat) (1818321771 : Int64) ∈ ztb := zt_in6 (List.mem_of_getElem? (i := 120) rfl) rfl
theorem zw_785 : Cond.constantLong "MissingLampsModel" (274 : Nat) (24948 : Int64) ∈ ztb := zt_in6 (List.mem_of_getElem? (i := 133) rfl) rfl
theorem zw_786 : Cond.constantLong "MissingLampsModel" (276 : Nat) (6845797 : Int64) ∈ ztb := zt_in6 (List.mem_of_getElem? (i := 134) rfl) rfl
theorem zw_787 : Cond.constantLong "MissingLampsModel" (278 : Nat) (1751738216 : Int64) ∈ ztb := zt_in6 (List.mem_of_getElem? (i := 135) rfl) rfl
theorem zw_788 : Cond.constantLong "MissingLampsModel" (280 : Nat) (6840691 : Int64) ∈ ztb := zt_in6 (List.mem_of_getElem? (i := 136) rfl) rfl
theorem zw_789 : Cond.constantLong "MissingLampsModel" (282 : Nat) (1718578283 : Int64) ∈ ztb := zt_in6 (List.mem_of_getElem? (i := 137) rfl) rfl
theorem zw_790 : Cond.constantLong "MissingLampsModel" (284 : Nat) (1752132965 : Int64) ∈ ztb := zt_in6 (List.mem_of_getElem? (i := 138) rfl) rfl
theorem zw_791 : Cond.constantLong "MissingLampsModel" (286 : Nat) (444200875891 : Int64) ∈ ztb := zt_in6 (List.mem_of_getElem? (i := 139) rfl) rfl
theorem zw_792 : Cond.constantLong "MissingLampsModel" (288 : Nat) (439855506547 : Int64) ∈ ztb := zt_in6 (List.mem_of_getElem? (i := 140) rfl) rfl
theorem zw_793 : Cond.constantLong "MissingLampsModel" (290 : Nat) (465726301555 : Int64) ∈ ztb := zt_in6 (List.mem_of_getElem? (i := 141) rfl) rfl
theorem zw_794 : Cond.constantLong "MissingLampsModel" (292 : Nat) (474214787188 : Int64) ∈ ztb := zt_in6 (List.mem_of_getElem? (i := 142) rfl) rfl
theorem zw_795 : Cond.constantLong "MissingLampsModel" (294 : Nat) (6383461 : Int64) ∈ ztb := zt_in6 (List.mem_of_getElem? (i := 143) rfl) rfl
theorem zw_796 : Cond.constantLong "MissingLampsModel" (296 : Nat) (1819243380 : Int64) ∈ ztb := zt_in6 (List.mem_of_getElem? (i := 144) rfl) rfl
theorem zw_797 : Cond.constantLong "MissingLampsModel" (298 : Nat) (1852137842 : Int64) ∈ ztb := zt_in6 (List.mem_of_getElem? (i := 145) rfl) rfl
theorem zw_798 : Cond.constantLong "MissingLampsModel" (300 : Nat) (26982 : Int64) ∈ ztb := zt_in6 (List.mem_of_getElem? (i := 146) rfl) rfl
theorem zw_799 : Cond.constantLong "MissingLampsModel" (302 : Nat) (28530 : Int64) ∈ ztb := zt_in6 (List.mem_of_getElem? (i := 147) rfl) rfl
theorem zw_800 : Cond.constantLong "MissingLampsModel" (304 : Nat) (6385252 : Int64) ∈ ztb := zt_in6 (List.mem_of_getElem? (i := 148) rfl) rfl
theorem zw_801 : Cond.constantLong "MissingLampsModel" (306 : Nat) (7237492 : Int64) ∈ ztb := zt_in6 (List.mem_of_getElem? (i := 149) rfl) rfl
theorem zw_802 : Cond.constantLong "MissingLampsModel" (308 : Nat) (6384748 : Int64) ∈ ztb := zt_in6 (List.mem_of_getElem? (i := 150) rfl) rfl
theorem zw_803 : Cond.constantLong "MissingLampsModel" (310 : Nat) (7170414 : Int64) ∈ ztb := zt_in6 (List.mem_of_getElem? (i := 151) rfl) rfl
theorem zw_804 : Cond.constantLong "MissingLampsModel" (312 : Nat) (7168376 : Int64) ∈ ztb := zt_in6 (List.mem_of_getElem? (i := 152) rfl) rfl
theorem zw_805 : Cond.methodLink "MissingLampsModel" (314 : Nat) ({ cls := "MissingLampsModel", name := "thingNamed", desc := "(J)I" } : MethodName) ∈ ztb := zt_in6 (List.mem_of_getElem? (i := 157) rfl) rfl
theorem zw_806 : Cond.instanceMethod ({ cls := "MissingLampsModel", name := "thingNamed", desc := "(J)I" } : MethodName) ∈ ztb := zt_in6 (List.mem_of_getElem? (i := 159) rfl) rfl
theorem zw_807 : Cond.selects "MissingLampsModel" ({ cls := "MissingLampsModel", name := "thingNamed", desc := "(J)I" } : MethodName) ({ cls := "MissingLampsModel", name := "thingNamed", desc := "(J)I" } : MethodName) ∈ ztb := zs_in4 (q := (⟨"MissingLampsModel", "thingNamed", "(J)I"⟩, 73)) (List.mem_of_getElem? (i := 12) rfl) rfl
theorem zw_808 : Cond.methodLink "MissingLampsModel" (318 : Nat) ({ cls := "MissingLampsModel", name := "is", desc := "(III)Z" } : MethodName) ∈ ztb := zt_in6 (List.mem_of_getElem? (i := 77) rfl) rfl
theorem zw_809 : Cond.static ({ cls := "MissingLampsModel", name := "is", desc := "(III)Z" } : MethodName) ∈ ztb := zt_in6 (List.mem_of_getElem? (i := 78) rfl) rfl
theorem zw_810 : Cond.methodLink "MissingLampsModel" (322 : Nat) ({ cls := "MissingLampsModel", name := "rank", desc := "(I)I" } : MethodName) ∈ ztb := zt_in6 (List.mem_of_getElem? (i := 211) rfl) rfl
theorem zw_811 : Cond.static ({ cls := "MissingLampsModel", name := "rank", desc := "(I)I" } : MethodName) ∈ ztb := zt_in6 (List.mem_of_getElem? (i := 212) rfl) rfl
theorem zw_812 : Cond.methodLink "MissingLampsModel" (325 : Nat) ({ cls := "MissingLampsModel", name := "add", desc := "(II)V" } : MethodName) ∈ ztb := zt_in6 (List.mem_of_getElem? (i := 199) rfl) rfl
theorem zw_813 : Cond.instanceMethod ({ cls := "MissingLampsModel", name := "add", desc := "(II)V" } : MethodName) ∈ ztb := zt_in6 (List.mem_of_getElem? (i := 201) rfl) rfl
theorem zw_814 : Cond.selects "MissingLampsModel" ({ cls := "MissingLampsModel", name := "add", desc := "(II)V" } : MethodName) ({ cls := "MissingLampsModel", name := "add", desc := "(II)V" } : MethodName) ∈ ztb := zs_in5 (q := (⟨"MissingLampsModel", "add", "(II)V"⟩, 73)) (List.mem_of_getElem? (i := 5) rfl) rfl
theorem zw_815 : Cond.methodLink "MissingLampsModel" (328 : Nat) ({ cls := "MissingLampsModel", name := "pushes", desc := "(I)V" } : MethodName) ∈ ztb := zt_in6 (List.mem_of_getElem? (i := 180) rfl) rfl
theorem zw_816 : Cond.instanceMethod ({ cls := "MissingLampsModel", name := "pushes", desc := "(I)V" } : MethodName) ∈ ztb := zt_in6 (List.mem_of_getElem? (i := 182) rfl) rfl
theorem zw_817 : Cond.selects "MissingLampsModel" ({ cls := "MissingLampsModel", name := "pushes", desc := "(I)V" } : MethodName) ({ cls := "MissingLampsModel", name := "pushes", desc := "(I)V" } : MethodName) ∈ ztb := zs_in5 (q := (⟨"MissingLampsModel", "pushes", "(I)V"⟩, 73)) (List.mem_of_getElem? (i := 1) rfl) rfl
theorem zw_818 : Cond.methodLink "MissingLampsModel" (331 : Nat) ({ cls := "MissingLampsModel", name := "isTest", desc := "(I)Z" } : MethodName) ∈ ztb := zt_in6 (List.mem_of_getElem? (i := 188) rfl) rfl
theorem zw_819 : Cond.static ({ cls := "MissingLampsModel", name := "isTest", desc := "(I)Z" } : MethodName) ∈ ztb := zt_in6 (List.mem_of_getElem? (i := 189) rfl) rfl
theorem zw_820 : Cond.methodLink "MissingLampsModel" (334 : Nat) ({ cls := "MissingLampsModel", name := "isWord", desc := "(J)Z" } : MethodName) ∈ ztb := zt_in6 (List.mem_of_getElem? (i := 69) rfl) rfl
theorem zw_821 : Cond.instanceMethod ({ cls := "MissingLampsModel", name := "isWord", desc := "(J)Z" } : MethodName) ∈ ztb := zt_in6 (List.mem_of_getElem? (i := 71) rfl) rfl
theorem zw_822 : Cond.selects "MissingLampsModel" ({ cls := "MissingLampsModel", name := "isWord", desc := "(J)Z" } : MethodName) ({ cls := "MissingLampsModel", name := "isWord", desc := "(J)Z" } : MethodName) ∈ ztb := zs_in3 (q := (⟨"MissingLampsModel", "isWord", "(J)Z"⟩, 73)) (List.mem_of_getElem? (i := 13) rfl) rfl
theorem zw_823 : Cond.methodLink "MissingLampsModel" (338 : Nat) ({ cls := "MissingLampsModel", name := "holdsBack", desc := "(I)V" } : MethodName) ∈ ztb := zt_in6 (List.mem_of_getElem? (i := 191) rfl) rfl
theorem zw_824 : Cond.instanceMethod ({ cls := "MissingLampsModel", name := "holdsBack", desc := "(I)V" } : MethodName) ∈ ztb := zt_in6 (List.mem_of_getElem? (i := 193) rfl) rfl
theorem zw_825 : Cond.selects "MissingLampsModel" ({ cls := "MissingLampsModel", name := "holdsBack", desc := "(I)V" } : MethodName) ({ cls := "MissingLampsModel", name := "holdsBack", desc := "(I)V" } : MethodName) ∈ ztb := zs_in5 (q := (⟨"MissingLampsModel", "holdsBack", "(I)V"⟩, 73)) (List.mem_of_getElem? (i := 3) rfl) rfl
theorem zw_826 : Cond.methodLink "MissingLampsModel" (341 : Nat) ({ cls := "MissingLampsModel", name := "opens", desc := "(I)V" } : MethodName) ∈ ztb := zt_in6 (List.mem_of_getElem? (i := 195) rfl) rfl
theorem zw_827 : Cond.instanceMethod ({ cls := "MissingLampsModel", name := "opens", desc := "(I)V" } : MethodName) ∈ ztb := zt_in6 (List.mem_of_getElem? (i := 197) rfl) rfl
theorem zw_828 : Cond.selects "MissingLampsModel" ({ cls := "MissingLampsModel", name := "opens", desc := "(I)V" } : MethodName) ({ cls := "MissingLampsModel", name := "opens", desc := "(I)V" } : MethodName) ∈ ztb := zs_in5 (q := (⟨"MissingLampsModel", "opens", "(I)V"⟩, 73)) (List.mem_of_getElem? (i := 4) rfl) rfl
theorem zw_829 : Cond.methodLink "MissingLampsModel" (344 : Nat) ({ cls := "MissingLampsModel", name := "joins", desc := "(I)V" } : MethodName) ∈ ztb := zt_in6 (List.mem_of_getElem? (i := 207) rfl) rfl
theorem zw_830 : Cond.instanceMethod ({ cls := "MissingLampsModel", name := "joins", desc := "(I)V" } : MethodName) ∈ ztb := zt_in6 (List.mem_of_getElem? (i := 209) rfl) rfl
theorem zw_831 : Cond.selects "MissingLampsModel" ({ cls := "MissingLampsModel", name := "joins", desc := "(I)V" } : MethodName) ({ cls := "MissingLampsModel", name := "joins", desc := "(I)V" } : MethodName) ∈ ztb := zs_in5 (q := (⟨"MissingLampsModel", "joins", "(I)V"⟩, 73)) (List.mem_of_getElem? (i := 7) rfl) rfl
theorem zw_832 : Cond.methodLink "MissingLampsModel" (347 : Nat) ({ cls := "MissingLampsModel", name := "operand", desc := "()Z" } : MethodName) ∈ ztb := zt_in6 (List.mem_of_getElem? (i := 184) rfl) rfl
theorem zw_833 : Cond.instanceMethod ({ cls := "MissingLampsModel", name := "operand", desc := "()Z" } : MethodName) ∈ ztb := zt_in6 (List.mem_of_getElem? (i := 186) rfl) rfl
theorem zw_834 : Cond.selects "MissingLampsModel" ({ cls := "MissingLampsModel", name := "operand", desc := "()Z" } : MethodName) ({ cls := "MissingLampsModel", name := "operand", desc := "()Z" } : MethodName) ∈ ztb := zs_in5 (q := (⟨"MissingLampsModel", "operand", "()Z"⟩, 73)) (List.mem_of_getElem? (i := 2) rfl) rfl
theorem zw_835 : Cond.methodLink "MissingLampsModel" (350 : Nat) ({ cls := "MissingLampsModel", name := "goesOn", desc := "()Z" } : MethodName) ∈ ztb := zt_in6 (List.mem_of_getElem? (i := 203) rfl) rfl
theorem zw_836 : Cond.instanceMethod ({ cls := "MissingLampsModel", name := "goesOn", desc := "()Z" } : MethodName) ∈ ztb := zt_in6 (List.mem_of_getElem? (i := 205) rfl) rfl
theorem zw_837 : Cond.selects "MissingLampsModel" ({ cls := "MissingLampsModel", name := "goesOn", desc := "()Z" } : MethodName) ({ cls := "MissingLampsModel", name := "goesOn", desc := "()Z" } : MethodName) ∈ ztb := zs_in5 (q := (⟨"MissingLampsModel", "goesOn", "()Z"⟩, 73)) (List.mem_of_getElem? (i := 6) rfl) rfl
theorem zw_838 : Cond.methodLink "MissingLampsModel" (353 : Nat) ({ cls := "MissingLampsModel", name := "isOwn", desc := "(J)Z" } : MethodName) ∈ ztb := zt_in6 (List.mem_of_getElem? (i := 129) rfl) rfl
theorem zw_839 : Cond.instanceMethod ({ cls := "MissingLampsModel", name := "isOwn", desc := "(J)Z" } : MethodName) ∈ ztb := zt_in6 (List.mem_of_getElem? (i := 131) rfl) rfl
theorem zw_840 : Cond.selects "MissingLampsModel" ({ cls := "MissingLampsModel", name := "isOwn", desc := "(J)Z" } : MethodName) ({ cls := "MissingLampsModel", name := "isOwn", desc := "(J)Z" } : MethodName) ∈ ztb := zs_in4 (q := (⟨"MissingLampsModel", "isOwn", "(J)Z"⟩, 73)) (List.mem_of_getElem? (i := 10) rfl) rfl
theorem zw_841 : Cond.methodLink "MissingLampsModel" (356 : Nat) ({ cls := "MissingLampsModel", name := "isNamed", desc := "(J)Z" } : MethodName) ∈ ztb := zt_in6 (List.mem_of_getElem? (i := 153) rfl) rfl
theorem zw_842 : Cond.instanceMethod ({ cls := "MissingLampsModel", name := "isNamed", desc := "(J)Z" } : MethodName) ∈ ztb := zt_in6 (List.mem_of_getElem? (i := 155) rfl) rfl
theorem zw_843 : Cond.selects "MissingLampsModel" ({ cls := "MissingLampsModel", name := "isNamed", desc := "(J)Z" } : MethodName) ({ cls := "MissingLampsModel", name := "isNamed", desc := "(J)Z" } : MethodName) ∈ ztb := zs_in4 (q := (⟨"MissingLampsModel", "isNamed", "(J)Z"⟩, 73)) (List.mem_of_getElem? (i := 11) rfl) rfl
theorem zw_844 : Cond.methodLink "MissingLampsModel" (359 : Nat) ({ cls := "MissingLampsModel", name := "number", desc := "(II)I" } : MethodName) ∈ ztb := zt_in6 (List.mem_of_getElem? (i := 73) rfl) rfl
theorem zw_845 : Cond.instanceMethod ({ cls := "MissingLampsModel", name := "number", desc := "(II)I" } : MethodName) ∈ ztb := zt_in6 (List.mem_of_getElem? (i := 75) rfl) rfl
theorem zw_846 : Cond.selects "MissingLampsModel" ({ cls := "MissingLampsModel", name := "number", desc := "(II)I" } : MethodName) ({ cls := "MissingLampsModel", name := "number", desc := "(II)I" } : MethodName) ∈ ztb := zs_in3 (q := (⟨"MissingLampsModel", "number", "(II)I"⟩, 73)) (List.mem_of_getElem? (i := 14) rfl) rfl
theorem zw_847 : Cond.methodLink "MissingLampsModel" (363 : Nat) ({ cls := "MissingLampsModel", name := "isInTheWay", desc := "(I)Z" } : MethodName) ∈ ztb := zt_in6 (List.mem_of_getElem? (i := 116) rfl) rfl
theorem zw_848 : Cond.instanceMethod ({ cls := "MissingLampsModel", name := "isInTheWay", desc := "(I)Z" } : MethodName) ∈ ztb := zt_in6 (List.mem_of_getElem? (i := 118) rfl) rfl
theorem zw_849 : Cond.selects "MissingLampsModel" ({ cls := "MissingLampsModel", name := "isInTheWay", desc := "(I)Z" } : MethodName) ({ cls := "MissingLampsModel", name := "isInTheWay", desc := "(I)Z" } : MethodName) ∈ ztb := zs_in4 (q := (⟨"MissingLampsModel", "isInTheWay", "(I)Z"⟩, 73)) (List.mem_of_getElem? (i := 7) rfl) rfl
theorem zw_850 : Cond.methodLink "MissingLampsModel" (366 : Nat) ({ cls := "MissingLampsModel", name := "must", desc := "(J)V" } : MethodName) ∈ ztb := zt_in6 (List.mem_of_getElem? (i := 57) rfl) rfl
theorem zw_851 : Cond.instanceMethod ({ cls := "MissingLampsModel", name := "must", desc := "(J)V" } : MethodName) ∈ ztb := zt_in6 (List.mem_of_getElem? (i := 59) rfl) rfl
theorem zw_852 : Cond.selects "MissingLampsModel" ({ cls := "MissingLampsModel", name := "must", desc := "(J)V" } : MethodName) ({ cls := "MissingLampsModel", name := "must", desc := "(J)V" } : MethodName) ∈ ztb := zs_in3 (q := (⟨"MissingLampsModel", "must", "(J)V"⟩, 73)) (List.mem_of_getElem? (i := 10) rfl) rfl
theorem zw_853 : Cond.methodLink "MissingLampsModel" (370 : Nat) ({ cls := "MissingLampsModel", name := "isCounted", desc := "(Z)Z" } : MethodName) ∈ ztb := zt_in6 (List.mem_of_getElem? (i := 102) rfl) rfl
theorem zw_854 : Cond.instanceMethod ({ cls := "MissingLampsModel", name := "isCounted", desc := "(Z)Z" } : MethodName) ∈ ztb := zt_in6 (List.mem_of_getElem? (i := 104) rfl) rfl
theorem zw_855 : Cond.selects "MissingLampsModel" ({ cls := "MissingLampsModel", name := "isCounted", desc := "(Z)Z" } : MethodName) ({ cls := "MissingLampsModel", name := "isCounted", desc := "(Z)Z" } : MethodName) ∈ ztb := zs_in4 (q := (⟨"MissingLampsModel", "isCounted", "(Z)Z"⟩, 73)) (List.mem_of_getElem? (i := 4) rfl) rfl
theorem zw_856 : Cond.methodLink "MissingLampsModel" (374 : Nat) ({ cls := "MissingLampsModel", name := "cellTold", desc := "(Z)I" } : MethodName) ∈ ztb := zt_in6 (List.mem_of_getElem? (i := 112) rfl) rfl
theorem zw_857 : Cond.instanceMethod ({ cls := "MissingLampsModel", name := "cellTold", desc := "(Z)I" } : MethodName) ∈ ztb := zt_in6 (List.mem_of_getElem? (i := 114) rfl) rfl
theorem zw_858 : Cond.selects "MissingLampsModel" ({ cls := "MissingLampsModel", name := "cellTold", desc := "(Z)I" } : MethodName) ({ cls := "MissingLampsModel", name := "cellTold", desc := "(Z)I" } : MethodName) ∈ ztb := zs_in4 (q := (⟨"MissingLampsModel", "cellTold", "(Z)I"⟩, 73)) (List.mem_of_getElem? (i := 6) rfl) rfl
theorem zw_859 : Cond.methodLink "MissingLampsModel" (378 : Nat) ({ cls := "MissingLampsModel", name := "fresh", desc := "()J" } : MethodName) ∈ ztb := zt_in6 (List.mem_of_getElem? (i := 125) rfl) rfl
theorem zw_860 : Cond.instanceMethod ({ cls := "MissingLampsModel", name := "fresh", desc := "()J" } : MethodName) ∈ ztb := zt_in6 (List.mem_of_getElem? (i := 127) rfl) rfl
theorem zw_861 : Cond.selects "MissingLampsModel" ({ cls := "MissingLampsModel", name := "fresh", desc := "()J" } : MethodName) ({ cls := "MissingLampsModel", name := "fresh", desc := "()J" } : MethodName) ∈ ztb := zs_in4 (q := (⟨"MissingLampsModel", "fresh", "()J"⟩, 73)) (List.mem_of_getElem? (i := 9) rfl) rfl
theorem zw_862 : Cond.methodLink "MissingLampsModel" (382 : Nat) ({ cls := "MissingLampsModel", name := "has2", desc := "(II)Z" } : MethodName) ∈ ztb := zt_in6 (List.mem_of_getElem? (i := 165) rfl) rfl
theorem zw_863 : Cond.static ({ cls := "MissingLampsModel", name := "has2", desc := "(II)Z" } : MethodName) ∈ ztb := zt_in6 (List.mem_of_getElem? (i := 166) rfl) rfl
theorem zw_864 : Cond.methodLink "MissingLampsModel" (386 : Nat) ({ cls := "MissingLampsModel", name := "reads", desc := "(Z)V" } : MethodName) ∈ ztb := zt_in6 (List.mem_of_getElem? (i := 176) rfl) rfl
theorem zw_865 : Cond.instanceMethod ({ cls := "MissingLampsModel", name := "reads", desc := "(Z)V" } : MethodName) ∈ ztb := zt_in6 (List.mem_of_getElem? (i := 178) rfl) rfl
theorem zw_866 : Cond.selects "MissingLampsModel" ({ cls := "MissingLampsModel", name := "reads", desc := "(Z)V" } : MethodName) ({ cls := "MissingLampsModel", name := "reads", desc := "(Z)V" } : MethodName) ∈ ztb := zs_in5 (q := (⟨"MissingLampsModel", "reads", "(Z)V"⟩, 73)) (List.mem_of_getElem? (i := 0) rfl) rfl
theorem zw_867 : Cond.methodLink "MissingLampsModel" (390 : Nat) ({ cls := "MissingLampsModel", name := "telling", desc := "(II)I" } : MethodName) ∈ ztb := zt_in6 (List.mem_of_getElem? (i := 98) rfl) rfl
theorem zw_868 : Cond.instanceMethod ({ cls := "MissingLampsModel", name := "telling", desc := "(II)I" } : MethodName) ∈ ztb := zt_in6 (List.mem_of_getElem? (i := 100) rfl) rfl
theorem zw_869 : Cond.selects "MissingLampsModel" ({ cls := "MissingLampsModel", name := "telling", desc := "(II)I" } : MethodName) ({ cls := "MissingLampsModel", name := "telling", desc := "(II)I" } : MethodName) ∈ ztb := zs_in4 (q := (⟨"MissingLampsModel", "telling", "(II)I"⟩, 73)) (List.mem_of_getElem? (i := 3) rfl) rfl
theorem zw_870 : Cond.methodLink "MissingLampsModel" (393 : Nat) ({ cls := "MissingLampsModel", name := "walling", desc := "()V" } : MethodName) ∈ ztb := zt_in6 (List.mem_of_getElem? (i := 108) rfl) rfl
theorem zw_871 : Cond.instanceMethod ({ cls := "MissingLampsModel", name := "walling", desc := "()V" } : MethodName) ∈ ztb := zt_in6 (List.mem_of_getElem? (i := 110) rfl) rfl
theorem zw_872 : Cond.selects "MissingLampsModel" ({ cls := "MissingLampsModel", name := "walling", desc := "()V" } : MethodName) ({ cls := "MissingLampsModel", name := "walling", desc := "()V" } : MethodName) ∈ ztb := zs_in4 (q := (⟨"MissingLampsModel", "walling", "()V"⟩, 73)) (List.mem_of_getElem? (i := 5) rfl) rfl
theorem zw_873 : Cond.methodLink "MissingLampsModel" (396 : Nat) ({ cls := "MissingLampsModel", name := "lacking", desc := "()V" } : MethodName) ∈ ztb := zt_in6 (List.mem_of_getElem? (i := 121) rfl) rfl
theorem zw_874 : Cond.instanceMethod ({ cls := "MissingLampsModel", name := "lacking", desc := "()V" } : MethodName) ∈ ztb := zt_in6 (List.mem_of_getElem? (i := 123) rfl) rfl
theorem zw_875 : Cond.selects "MissingLampsModel" ({ cls := "MissingLampsModel", name := "lacking", desc := "()V" } : MethodName) ({ cls := "MissingLampsModel", name := "lacking", desc := "()V" } : MethodName) ∈ ztb := zs_in4 (q := (⟨"MissingLampsModel", "lacking", "()V"⟩, 73)) (List.mem_of_getElem? (i := 8) rfl) rfl
theorem zw_876 : Cond.methodLink "MissingLampsModel" (399 : Nat) ({ cls := "MissingLampsModel", name := "having", desc := "()V" } : MethodName) ∈ ztb := zt_in6 (List.mem_of_getElem? (i := 161) rfl) rfl
theorem zw_877 : Cond.instanceMethod ({ cls := "MissingLampsModel", name := "having", desc := "()V" } : MethodName) ∈ ztb := zt_in6 (List.mem_of_getElem? (i := 163) rfl) rfl
theorem zw_878 : Cond.selects "MissingLampsModel" ({ cls := "MissingLampsModel", name := "having", desc := "()V" } : MethodName) ({ cls := "MissingLampsModel", name := "having", desc := "()V" } : MethodName) ∈ ztb := zs_in4 (q := (⟨"MissingLampsModel", "having", "()V"⟩, 73)) (List.mem_of_getElem? (i := 13) rfl) rfl
theorem zw_879 : Cond.methodLink "MissingLampsModel" (402 : Nat) ({ cls := "MissingLampsModel", name := "folking", desc := "()V" } : MethodName) ∈ ztb := zt_in6 (List.mem_of_getElem? (i := 168) rfl) rfl
theorem zw_880 : Cond.instanceMethod ({ cls := "MissingLampsModel", name := "folking", desc := "()V" } : MethodName) ∈ ztb := zt_in6 (List.mem_of_getElem? (i := 170) rfl) rfl
theorem zw_881 : Cond.selects "MissingLampsModel" ({ cls := "MissingLampsModel", name := "folking", desc := "()V" } : MethodName) ({ cls := "MissingLampsModel", name := "folking", desc := "()V" } : MethodName) ∈ ztb := zs_in4 (q := (⟨"MissingLampsModel", "folking", "()V"⟩, 73)) (List.mem_of_getElem? (i := 14) rfl) rfl
theorem zw_882 : Cond.methodLink "MissingLampsModel" (405 : Nat) ({ cls := "MissingLampsModel", name := "reading", desc := "(I)V" } : MethodName) ∈ ztb := zt_in6 (List.mem_of_getElem? (i := 172) rfl) rfl
theorem zw_883 : Cond.instanceMethod ({ cls := "MissingLampsModel", name := "reading", desc := "(I)V" } : MethodName) ∈ ztb := zt_in6 (List.mem_of_getElem? (i := 174) rfl) rfl
theorem zw_884 : Cond.selects "MissingLampsModel" ({ cls := "MissingLampsModel", name := "reading", desc := "(I)V" } : MethodName) ({ cls := "MissingLampsModel", name := "reading", desc := "(I)V" } : MethodName) ∈ ztb := zs_in4 (q := (⟨"MissingLampsModel", "reading", "(I)V"⟩, 73)) (List.mem_of_getElem? (i := 15) rfl) rfl
theorem zw_885 : Cond.methodLink "MissingLampsModel" (408 : Nat) ({ cls := "MissingLampsModel", name := "must", desc := "(I)V" } : MethodName) ∈ ztb := zt_in6 (List.mem_of_getElem? (i := 89) rfl) rfl
theorem zw_886 : Cond.instanceMethod ({ cls := "MissingLampsModel", name := "must", desc := "(I)V" } : MethodName) ∈ ztb := zt_in6 (List.mem_of_getElem? (i := 91) rfl) rfl
theorem zw_887 : Cond.selects "MissingLampsModel" ({ cls := "MissingLampsModel", name := "must", desc := "(I)V" } : MethodName) ({ cls := "MissingLampsModel", name := "must", desc := "(I)V" } : MethodName) ∈ ztb := zs_in4 (q := (⟨"MissingLampsModel", "must", "(I)V"⟩, 73)) (List.mem_of_getElem? (i := 1) rfl) rfl
theorem zw_888 : Cond.methodLink "MissingLampsModel" (410 : Nat) ({ cls := "MissingLampsModel", name := "quaying", desc := "()V" } : MethodName) ∈ ztb := zt_in6 (List.mem_of_getElem? (i := 52) rfl) rfl
theorem zw_889 : Cond.instanceMethod ({ cls := "MissingLampsModel", name := "quaying", desc := "()V" } : MethodName) ∈ ztb := zt_in6 (List.mem_of_getElem? (i := 54) rfl) rfl
theorem zw_890 : Cond.selects "MissingLampsModel" ({ cls := "MissingLampsModel", name := "quaying", desc := "()V" } : MethodName) ({ cls := "MissingLampsModel", name := "quaying", desc := "()V" } : MethodName) ∈ ztb := zs_in3 (q := (⟨"MissingLampsModel", "quaying", "()V"⟩, 73)) (List.mem_of_getElem? (i := 9) rfl) rfl
theorem zw_891 : Cond.methodLink "MissingLampsModel" (413 : Nat) ({ cls := "MissingLampsModel", name := "finishes", desc := "(I)V" } : MethodName) ∈ ztb := zt_in6 (List.mem_of_getElem? (i := 81) rfl) rfl
theorem zw_892 : Cond.instanceMethod ({ cls := "MissingLampsModel", name := "finishes", desc := "(I)V" } : MethodName) ∈ ztb := zt_in6 (List.mem_of_getElem? (i := 83) rfl) rfl
theorem zw_893 : Cond.selects "MissingLampsModel" ({ cls := "MissingLampsModel", name := "finishes", desc := "(I)V" } : MethodName) ({ cls := "MissingLampsModel", name := "finishes", desc := "(I)V" } : MethodName) ∈ ztb := zs_in3 (q := (⟨"MissingLampsModel", "finishes", "(I)V"⟩, 73)) (List.mem_of_getElem? (i := 15) rfl) rfl
theorem zw_894 : Cond.methodLink "MissingLampsModel" (416 : Nat) ({ cls := "MissingLampsModel", name := "statement", desc := "()V" } : MethodName) ∈ ztb := zt_in6 (List.mem_of_getElem? (i := 93) rfl) rfl
theorem zw_895 : Cond.instanceMethod ({ cls := "MissingLampsModel", name := "statement", desc := "()V" } : MethodName) ∈ ztb := zt_in6 (List.mem_of_getElem? (i := 95) rfl) rfl
theorem zw_896 : Cond.selects "MissingLampsModel" ({ cls := "MissingLampsModel", name := "statement", desc := "()V" } : MethodName) ({ cls := "MissingLampsModel", name := "statement", desc := "()V" } : MethodName) ∈ ztb := zs_in4 (q := (⟨"MissingLampsModel", "statement", "()V"⟩, 73)) (List.mem_of_getElem? (i := 2) rfl) rfl
theorem zw_897 : Cond.methodLink "MissingLampsModel" (419 : Nat) ({ cls := "MissingLampsModel", name := "begin", desc := "()V" } : MethodName) ∈ ztb := zt_in6 (List.mem_of_getElem? (i := 214) rfl) rfl
theorem zw_898 : Cond.instanceMethod ({ cls := "MissingLampsModel", name := "begin", desc := "()V" } : MethodName) ∈ ztb := zt_in6 (List.mem_of_getElem? (i := 216) rfl) rfl
theorem zw_899 : Cond.selects "MissingLampsModel" ({ cls := "MissingLampsModel", name := "begin", desc := "()V" } : MethodName) ({ cls := "MissingLampsModel", name := "begin", desc := "()V" } : MethodName) ∈ ztb := zs_in5 (q := (⟨"MissingLampsModel", "begin", "()V"⟩, 73)) (List.mem_of_getElem? (i := 8) rfl) rfl
theorem zw_900 : Cond.methodLink "MissingLampsModel" (422 : Nat) ({ cls := "MissingLampsModel", name := "slot", desc := "(I)I" } : MethodName) ∈ ztb := zt_in6 (List.mem_of_getElem? (i := 230) rfl) rfl
theorem zw_901 : Cond.instanceMethod ({ cls := "MissingLampsModel", name := "slot", desc := "(I)I" } : MethodName) ∈ ztb := zt_in6 (List.mem_of_getElem? (i := 232) rfl) rfl
theorem zw_902 : Cond.selects "MissingLampsModel" ({ cls := "MissingLampsModel", name := "slot", desc := "(I)I" } : MethodName) ({ cls := "MissingLampsModel", name := "slot", desc := "(I)I" } : MethodName) ∈ ztb := zs_in5 (q := (⟨"MissingLampsModel", "slot", "(I)I"⟩, 73)) (List.mem_of_getElem? (i := 9) rfl) rfl
theorem zw_903 : Cond.methodLink "MissingLampsModel" (425 : Nat) ({ cls := "MissingLampsModel", name := "copies", desc := "(II)V" } : MethodName) ∈ ztb := zt_in6 (List.mem_of_getElem? (i := 234) rfl) rfl
theorem zw_904 : Cond.instanceMethod ({ cls := "MissingLampsModel", name := "copies", desc := "(II)V" } : MethodName) ∈ ztb := zt_in6 (List.mem_of_getElem? (i := 236) rfl) rfl
theorem zw_905 : Cond.selects "MissingLampsModel" ({ cls := "MissingLampsModel", name := "copies", desc := "(II)V" } : MethodName) ({ cls := "MissingLampsModel", name := "copies", desc := "(II)V" } : MethodName) ∈ ztb := zs_in5 (q := (⟨"MissingLampsModel", "copies", "(II)V"⟩, 73)) (List.mem_of_getElem? (i := 10) rfl) rfl
theorem zw_906 : Cond.constantLong "MissingLampsModel" (428 : Nat) (1000000 : Int64) ∈ ztb := zt_in7 (List.mem_of_getElem? (i := 43) rfl) rfl
theorem zw_907 : Cond.constantLong "MissingLampsModel" (430 : Nat) (-1000000 : Int64) ∈ ztb := zt_in7 (List.mem_of_getElem? (i := 44) rfl) rfl
theorem zw_908 : Cond.methodLink "MissingLampsModel" (432 : Nat) ({ cls := "MissingLampsModel", name := "within", desc := "(J)J" } : MethodName) ∈ ztb := zt_in7 (List.mem_of_getElem? (i := 40) rfl) rfl
theorem zw_909 : Cond.static ({ cls := "MissingLampsModel", name := "within", desc := "(J)J" } : MethodName) ∈ ztb := zt_in7 (List.mem_of_getElem? (i := 41) rfl) rfl
theorem zw_910 : Cond.methodLink "MissingLampsModel" (436 : Nat) ({ cls := "MissingLampsModel", name := "floor", desc := "(JJ)J" } : MethodName) ∈ ztb := zt_in7 (List.mem_of_getElem? (i := 45) rfl) rfl
theorem zw_911 : Cond.static ({ cls := "MissingLampsModel", name := "floor", desc := "(JJ)J" } : MethodName) ∈ ztb := zt_in7 (List.mem_of_getElem? (i := 46) rfl) rfl
theorem zw_912 : Cond.methodLink "MissingLampsModel" (440 : Nat) ({ cls := "MissingLampsModel", name := "two", desc := "(IJJ)J" } : MethodName) ∈ ztb := zt_in7 (List.mem_of_getElem? (i := 37) rfl) rfl
theorem zw_913 : Cond.static ({ cls := "MissingLampsModel", name := "two", desc := "(IJJ)J" } : MethodName) ∈ ztb := zt_in7 (List.mem_of_getElem? (i := 38) rfl) rfl
theorem zw_914 : Cond.methodLink "MissingLampsModel" (444 : Nat) ({ cls := "MissingLampsModel", name := "isCell", desc := "(II)Z" } : MethodName) ∈ ztb := zt_in7 (List.mem_of_getElem? (i := 6) rfl) rfl
theorem zw_915 : Cond.instanceMethod ({ cls := "MissingLampsModel", name := "isCell", desc := "(II)Z" } : MethodName) ∈ ztb := zt_in7 (List.mem_of_getElem? (i := 8) rfl) rfl
theorem zw_916 : Cond.selects "MissingLampsModel" ({ cls := "MissingLampsModel", name := "isCell", desc := "(II)Z" } : MethodName) ({ cls := "MissingLampsModel", name := "isCell", desc := "(II)Z" } : MethodName) ∈ ztb := zs_in5 (q := (⟨"MissingLampsModel", "isCell", "(II)Z"⟩, 73)) (List.mem_of_getElem? (i := 12) rfl) rfl
theorem zw_917 : Cond.methodLink "MissingLampsModel" (447 : Nat) ({ cls := "MissingLampsModel", name := "isWall", desc := "(I)Z" } : MethodName) ∈ ztb := zt_in7 (List.mem_of_getElem? (i := 10) rfl) rfl
theorem zw_918 : Cond.instanceMethod ({ cls := "MissingLampsModel", name := "isWall", desc := "(I)Z" } : MethodName) ∈ ztb := zt_in7 (List.mem_of_getElem? (i := 12) rfl) rfl
theorem zw_919 : Cond.selects "MissingLampsModel" ({ cls := "MissingLampsModel", name := "isWall", desc := "(I)Z" } : MethodName) ({ cls := "MissingLampsModel", name := "isWall", desc := "(I)Z" } : MethodName) ∈ ztb := zs_in5 (q := (⟨"MissingLampsModel", "isWall", "(I)Z"⟩, 73)) (List.mem_of_getElem? (i := 13) rfl) rfl
theorem zw_920 : Cond.methodLink "MissingLampsModel" (450 : Nat) ({ cls := "MissingLampsModel", name := "bits", desc := "(I)I" } : MethodName) ∈ ztb := zt_in7 (List.mem_of_getElem? (i := 14) rfl) rfl
theorem zw_921 : Cond.static ({ cls := "MissingLampsModel", name := "bits", desc := "(I)I" } : MethodName) ∈ ztb := zt_in7 (List.mem_of_getElem? (i := 15) rfl) rfl
theorem zw_922 : Cond.methodLink "MissingLampsModel" (453 : Nat) ({ cls := "MissingLampsModel", name := "isTold", desc := "(I)Z" } : MethodName) ∈ ztb := zt_in7 (List.mem_of_getElem? (i := 25) rfl) rfl
theorem zw_923 : Cond.instanceMethod ({ cls := "MissingLampsModel", name := "isTold", desc := "(I)Z" } : MethodName) ∈ ztb := zt_in7 (List.mem_of_getElem? (i := 27) rfl) rfl
theorem zw_924 : Cond.selects "MissingLampsModel" ({ cls := "MissingLampsModel", name := "isTold", desc := "(I)Z" } : MethodName) ({ cls := "MissingLampsModel", name := "isTold", desc := "(I)Z" } : MethodName) ∈ ztb := zs_in6 (q := (⟨"MissingLampsModel", "isTold", "(I)Z"⟩, 73)) (List.mem_of_getElem? (i := 0) rfl) rfl
theorem zw_925 : Cond.methodLink "MissingLampsModel" (456 : Nat) ({ cls := "MissingLampsModel", name := "lays", desc := "(II)V" } : MethodName) ∈ ztb := zt_in7 (List.mem_of_getElem? (i := 29) rfl) rfl
theorem zw_926 : Cond.instanceMethod ({ cls := "MissingLampsModel", name := "lays", desc := "(II)V" } : MethodName) ∈ ztb := zt_in7 (List.mem_of_getElem? (i := 31) rfl) rfl
theorem zw_927 : Cond.selects "MissingLampsModel" ({ cls := "MissingLampsModel", name := "lays", desc := "(II)V" } : MethodName) ({ cls := "MissingLampsModel", name := "lays", desc := "(II)V" } : MethodName) ∈ ztb := zs_in6 (q := (⟨"MissingLampsModel", "lays", "(II)V"⟩, 73)) (List.mem_of_getElem? (i := 1) rfl) rfl
theorem zw_928 : Cond.methodLink "MissingLampsModel" (459 : Nat) ({ cls := "MissingLampsModel", name := "reckons", desc := "(I)J" } : MethodName) ∈ ztb := zt_in7 (List.mem_of_getElem? (i := 33) rfl) rfl
theorem zw_929 : Cond.instanceMethod ({ cls := "MissingLampsModel", name := "reckons", desc := "(I)J" } : MethodName) ∈ ztb := zt_in7 (List.mem_of_getElem? (i := 35) rfl) rfl
theorem zw_930 : Cond.selects "MissingLampsModel" ({ cls := "MissingLampsModel", name := "reckons", desc := "(I)J" } : MethodName) ({ cls := "MissingLampsModel", name := "reckons", desc := "(I)J" } : MethodName) ∈ ztb := zs_in6 (q := (⟨"MissingLampsModel", "reckons", "(I)J"⟩, 73)) (List.mem_of_getElem? (i := 2) rfl) rfl
theorem zw_931 : Cond.constantLong "MissingLampsModel" (463 : Nat) (9 : Int64) ∈ ztb := zt_in7 (List.mem_of_getElem? (i := 48) rfl) rfl
theorem zw_932 : Cond.methodLink "MissingLampsModel" (465 : Nat) ({ cls := "MissingLampsModel", name := "glowOf", desc := "(II)I" } : MethodName) ∈ ztb := zt_in7 (List.mem_of_getElem? (i := 21) rfl) rfl
theorem zw_933 : Cond.instanceMethod ({ cls := "MissingLampsModel", name := "glowOf", desc := "(II)I" } : MethodName) ∈ ztb := zt_in7 (List.mem_of_getElem? (i := 23) rfl) rfl
theorem zw_934 : Cond.selects "MissingLampsModel" ({ cls := "MissingLampsModel", name := "glowOf", desc := "(II)I" } : MethodName) ({ cls := "MissingLampsModel", name := "glowOf", desc := "(II)I" } : MethodName) ∈ ztb := zs_in5 (q := (⟨"MissingLampsModel", "glowOf", "(II)I"⟩, 73)) (List.mem_of_getElem? (i := 15) rfl) rfl
theorem zw_935 : Cond.methodLink "MissingLampsModel" (468 : Nat) ({ cls := "MissingLampsModel", name := "isCellOf", desc := "(I)Z" } : MethodName) ∈ ztb := zt_in7 (List.mem_of_getElem? (i := 2) rfl) rfl
theorem zw_936 : Cond.instanceMethod ({ cls := "MissingLampsModel", name := "isCellOf", desc := "(I)Z" } : MethodName) ∈ ztb := zt_in7 (List.mem_of_getElem? (i := 4) rfl) rfl
theorem zw_937 : Cond.selects "MissingLampsModel" ({ cls := "MissingLampsModel", name := "isCellOf", desc := "(I)Z" } : MethodName) ({ cls := "MissingLampsModel", name := "isCellOf", desc := "(I)Z" } : MethodName) ∈ ztb := zs_in5 (q := (⟨"MissingLampsModel", "isCellOf", "(I)Z"⟩, 73)) (List.mem_of_getElem? (i := 11) rfl) rfl
theorem zw_938 : Cond.methodLink "MissingLampsModel" (471 : Nat) ({ cls := "MissingLampsModel", name := "gap", desc := "(II)I" } : MethodName) ∈ ztb := zt_in7 (List.mem_of_getElem? (i := 49) rfl) rfl
theorem zw_939 : Cond.static ({ cls := "MissingLampsModel", name := "gap", desc := "(II)I" } : MethodName) ∈ ztb := zt_in7 (List.mem_of_getElem? (i := 50) rfl) rfl
theorem zw_940 : Cond.constant "MissingLampsModel" (474 : Nat) (100000000 : Int32) ∈ ztb := zt_in7 (List.mem_of_getElem? (i := 92) rfl) rfl
theorem zw_941 : Cond.methodLink "MissingLampsModel" (475 : Nat) ({ cls := "MissingLampsModel", name := "besideOf", desc := "(II)I" } : MethodName) ∈ ztb := zt_in7 (List.mem_of_getElem? (i := 93) rfl) rfl
theorem zw_942 : Cond.instanceMethod ({ cls := "MissingLampsModel", name := "besideOf", desc := "(II)I" } : MethodName) ∈ ztb := zt_in7 (List.mem_of_getElem? (i := 95) rfl) rfl
theorem zw_943 : Cond.selects "MissingLampsModel" ({ cls := "MissingLampsModel", name := "besideOf", desc := "(II)I" } : MethodName) ({ cls := "MissingLampsModel", name := "besideOf", desc := "(II)I" } : MethodName) ∈ ztb := zs_in6 (q := (⟨"MissingLampsModel", "besideOf", "(II)I"⟩, 73)) (List.mem_of_getElem? (i := 8) rfl) rfl
theorem zw_944 : Cond.methodLink "MissingLampsModel" (478 : Nat) ({ cls := "MissingLampsModel", name := "leads", desc := "(IZ)V" } : MethodName) ∈ ztb := zt_in7 (List.mem_of_getElem? (i := 88) rfl) rfl
theorem zw_945 : Cond.instanceMethod ({ cls := "MissingLampsModel", name := "leads", desc := "(IZ)V" } : MethodName) ∈ ztb := zt_in7 (List.mem_of_getElem? (i := 90) rfl) rfl
theorem zw_946 : Cond.selects "MissingLampsModel" ({ cls := "MissingLampsModel", name := "leads", desc := "(IZ)V" } : MethodName) ({ cls := "MissingLampsModel", name := "leads", desc := "(IZ)V" } : MethodName) ∈ ztb := zs_in6 (q := (⟨"MissingLampsModel", "leads", "(IZ)V"⟩, 73)) (List.mem_of_getElem? (i := 7) rfl) rfl
theorem zw_947 : Cond.methodLink "MissingLampsModel" (482 : Nat) ({ cls := "MissingLampsModel", name := "writesDown", desc := "(III)V" } : MethodName) ∈ ztb := zt_in7 (List.mem_of_getElem? (i := 125) rfl) rfl
theorem zw_948 : Cond.instanceMethod ({ cls := "MissingLampsModel", name := "writesDown", desc := "(III)V" } : MethodName) ∈ ztb := zt_in7 (List.mem_of_getElem? (i := 127) rfl) rfl
theorem zw_949 : Cond.selects "MissingLampsModel" ({ cls := "MissingLampsModel", name := "writesDown", desc := "(III)V" } : MethodName) ({ cls := "MissingLampsModel", name := "writesDown", desc := "(III)V" } : MethodName) ∈ ztb := zs_in6 (q := (⟨"MissingLampsModel", "writesDown", "(III)V"⟩, 73)) (List.mem_of_getElem? (i := 15) rfl) rfl
theorem zw_950 : Cond.methodLink "MissingLampsModel" (486 : Nat) ({ cls := "MissingLampsModel", name := "lights", desc := "(II)V" } : MethodName) ∈ ztb := zt_in7 (List.mem_of_getElem? (i := 17) rfl) rfl
theorem zw_951 : Cond.instanceMethod ({ cls := "MissingLampsModel", name := "lights", desc := "(II)V" } : MethodName) ∈ ztb := zt_in7 (List.mem_of_getElem? (i := 19) rfl) rfl
theorem zw_952 : Cond.selects "MissingLampsModel" ({ cls := "MissingLampsModel", name := "lights", desc := "(II)V" } : MethodName) ({ cls := "MissingLampsModel", name := "lights", desc := "(II)V" } : MethodName) ∈ ztb := zs_in5 (q := (⟨"MissingLampsModel", "lights", "(II)V"⟩, 73)) (List.mem_of_getElem? (i := 14) rfl) rfl
theorem zw_953 : Cond.methodLink "MissingLampsModel" (489 : Nat) ({ cls := "MissingLampsModel", name := "walks", desc := "(II)V" } : MethodName) ∈ ztb := zt_in7 (List.mem_of_getElem? (i := 113) rfl) rfl
theorem zw_954 : Cond.instanceMethod ({ cls := "MissingLampsModel", name := "walks", desc := "(II)V" } : MethodName) ∈ ztb := zt_in7 (List.mem_of_getElem? (i := 115) rfl) rfl
theorem zw_955 : Cond.selects "MissingLampsModel" ({ cls := "MissingLampsModel", name := "walks", desc := "(II)V" } : MethodName) ({ cls := "MissingLampsModel", name := "walks", desc := "(II)V" } : MethodName) ∈ ztb := zs_in6 (q := (⟨"MissingLampsModel", "walks", "(II)V"⟩, 73)) (List.mem_of_getElem? (i := 12) rfl) rfl
theorem zw_956 : Cond.methodLink "MissingLampsModel" (492 : Nat) ({ cls := "MissingLampsModel", name := "isTurned", desc := "(II)Z" } : MethodName) ∈ ztb := zt_in7 (List.mem_of_getElem? (i := 117) rfl) rfl
theorem zw_957 : Cond.instanceMethod ({ cls := "MissingLampsModel", name := "isTurned", desc := "(II)Z" } : MethodName) ∈ ztb := zt_in7 (List.mem_of_getElem? (i := 119) rfl) rfl
theorem zw_958 : Cond.selects "MissingLampsModel" ({ cls := "MissingLampsModel", name := "isTurned", desc := "(II)Z" } : MethodName) ({ cls := "MissingLampsModel", name := "isTurned", desc := "(II)Z" } : MethodName) ∈ ztb := zs_in6 (q := (⟨"MissingLampsModel", "isTurned", "(II)Z"⟩, 73)) (List.mem_of_getElem? (i := 13) rfl) rfl
theorem zw_959 : Cond.methodLink "MissingLampsModel" (495 : Nat) ({ cls := "MissingLampsModel", name := "turnsOver", desc := "(II)V" } : MethodName) ∈ ztb := zt_in7 (List.mem_of_getElem? (i := 121) rfl) rfl
theorem zw_960 : Cond.instanceMethod ({ cls := "MissingLampsModel", name := "turnsOver", desc := "(II)V" } : MethodName) ∈ ztb := zt_in7 (List.mem_of_getElem? (i := 123) rfl) rfl
theorem zw_961 : Cond.selects "MissingLampsModel" ({ cls := "MissingLampsModel", name := "turnsOver", desc := "(II)V" } : MethodName) ({ cls := "MissingLampsModel", name := "turnsOver", desc := "(II)V" } : MethodName) ∈ ztb := zs_in6 (q := (⟨"MissingLampsModel", "turnsOver", "(II)V"⟩, 73)) (List.mem_of_getElem? (i := 14) rfl) rfl
theorem zw_962 : Cond.methodLink "MissingLampsModel" (498 : Nat) ({ cls := "MissingLampsModel", name := "isHome", desc := "(II)Z" } : MethodName) ∈ ztb := zt_in7 (List.mem_of_getElem? (i := 56) rfl) rfl
theorem zw_963 : Cond.instanceMethod ({ cls := "MissingLampsModel", name := "isHome", desc := "(II)Z" } : MethodName) ∈ ztb := zt_in7 (List.mem_of_getElem? (i := 58) rfl) rfl
theorem zw_964 : Cond.selects "MissingLampsModel" ({ cls := "MissingLampsModel", name := "isHome", desc := "(II)Z" } : MethodName) ({ cls := "MissingLampsModel", name := "isHome", desc := "(II)Z" } : MethodName) ∈ ztb := zs_in6 (q := (⟨"MissingLampsModel", "isHome", "(II)Z"⟩, 73)) (List.mem_of_getElem? (i := 4) rfl) rfl
theorem zw_965 : Cond.methodLink "MissingLampsModel" (501 : Nat) ({ cls := "MissingLampsModel", name := "homes", desc := "(I)I" } : MethodName) ∈ ztb := zt_in7 (List.mem_of_getElem? (i := 52) rfl) rfl
theorem zw_966 : Cond.instanceMethod ({ cls := "MissingLampsModel", name := "homes", desc := "(I)I" } : MethodName) ∈ ztb := zt_in7 (List.mem_of_getElem? (i := 54) rfl) rfl
theorem zw_967 : Cond.selects "MissingLampsModel" ({ cls := "MissingLampsModel", name := "homes", desc := "(I)I" } : MethodName) ({ cls := "MissingLampsModel", name := "homes", desc := "(I)I" } : MethodName) ∈ ztb := zs_in6 (q := (⟨"MissingLampsModel", "homes", "(I)I"⟩, 73)) (List.mem_of_getElem? (i := 3) rfl) rfl
theorem zw_968 : Cond.methodLink "MissingLampsModel" (504 : Nat) ({ cls := "MissingLampsModel", name := "isThing", desc := "(I)Z" } : MethodName) ∈ ztb := zt_in7 (List.mem_of_getElem? (i := 64) rfl) rfl
theorem zw_969 : Cond.instanceMethod ({ cls := "MissingLampsModel", name := "isThing", desc := "(I)Z" } : MethodName) ∈ ztb := zt_in7 (List.mem_of_getElem? (i := 66) rfl) rfl
theorem zw_970 : Cond.selects "MissingLampsModel" ({ cls := "MissingLampsModel", name := "isThing", desc := "(I)Z" } : MethodName) ({ cls := "MissingLampsModel", name := "isThing", desc := "(I)Z" } : MethodName) ∈ ztb := zs_in6 (q := (⟨"MissingLampsModel", "isThing", "(I)Z"⟩, 73)) (List.mem_of_getElem? (i := 5) rfl) rfl
theorem zw_971 : Cond.methodLink "MissingLampsModel" (507 : Nat) ({ cls := "MissingLampsModel", name := "isFolk", desc := "(I)Z" } : MethodName) ∈ ztb := zt_in7 (List.mem_of_getElem? (i := 68) rfl) rfl
theorem zw_972 : Cond.instanceMethod ({ cls := "MissingLampsModel", name := "isFolk", desc := "(I)Z" } : MethodName) ∈ ztb := zt_in7 (List.mem_of_getElem? (i := 70) rfl) rfl
theorem zw_973 : Cond.selects "MissingLampsModel" ({ cls := "MissingLampsModel", name := "isFolk", desc := "(I)Z" } : MethodName) ({ cls := "MissingLampsModel", name := "isFolk", desc := "(I)Z" } : MethodName) ∈ ztb := zs_in6 (q := (⟨"MissingLampsModel", "isFolk", "(I)Z"⟩, 73)) (List.mem_of_getElem? (i := 6) rfl) rfl
theorem zw_974 : Cond.constantLong "MissingLampsModel" (510 : Nat) (255 : Int64) ∈ ztb := zt_in7 (List.mem_of_getElem? (i := 72) rfl) rfl
theorem zw_975 : Cond.methodLink "MissingLampsModel" (512 : Nat) ({ cls := "MissingLampsModel", name := "partOf", desc := "(II)I" } : MethodName) ∈ ztb := zt_in7 (List.mem_of_getElem? (i := 81) rfl) rfl
theorem zw_976 : Cond.static ({ cls := "MissingLampsModel", name := "partOf", desc := "(II)I" } : MethodName) ∈ ztb := zt_in7 (List.mem_of_getElem? (i := 82) rfl) rfl
theorem zw_977 : Cond.methodLink "MissingLampsModel" (515 : Nat) ({ cls := "MissingLampsModel", name := "ticks", desc := "(II)I" } : MethodName) ∈ ztb := zt_in7 (List.mem_of_getElem? (i := 109) rfl) rfl
theorem zw_978 : Cond.instanceMethod ({ cls := "MissingLampsModel", name := "ticks", desc := "(II)I" } : MethodName) ∈ ztb := zt_in7 (List.mem_of_getElem? (i := 111) rfl) rfl
theorem zw_979 : Cond.selects "MissingLampsModel" ({ cls := "MissingLampsModel", name := "ticks", desc := "(II)I" } : MethodName) ({ cls := "MissingLampsModel", name := "ticks", desc := "(II)I" } : MethodName) ∈ ztb := zs_in6 (q := (⟨"MissingLampsModel", "ticks", "(II)I"⟩, 73)) (List.mem_of_getElem? (i := 11) rfl) rfl
theorem zw_980 : Cond.methodLink "MissingLampsModel" (518 : Nat) ({ cls := "MissingLampsModel", name := "isAhead", desc := "(III)Z" } : MethodName) ∈ ztb := zt_in7 (List.mem_of_getElem? (i := 101) rfl) rfl
theorem zw_981 : Cond.instanceMethod ({ cls := "MissingLampsModel", name := "isAhead", desc := "(III)Z" } : MethodName) ∈ ztb := zt_in7 (List.mem_of_getElem? (i := 103) rfl) rfl
theorem zw_982 : Cond.selects "MissingLampsModel" ({ cls := "MissingLampsModel", name := "isAhead", desc := "(III)Z" } : MethodName) ({ cls := "MissingLampsModel", name := "isAhead", desc := "(III)Z" } : MethodName) ∈ ztb := zs_in6 (q := (⟨"MissingLampsModel", "isAhead", "(III)Z"⟩, 73)) (List.mem_of_getElem? (i := 9) rfl) rfl
theorem zw_983 : Cond.methodLink "MissingLampsModel" (521 : Nat) ({ cls := "MissingLampsModel", name := "runsOn", desc := "(I)V" } : MethodName) ∈ ztb := zt_in7 (List.mem_of_getElem? (i := 105) rfl) rfl
theorem zw_984 : Cond.instanceMethod ({ cls := "MissingLampsModel", name := "runsOn", desc := "(I)V" } : MethodName) ∈ ztb := zt_in7 (List.mem_of_getElem? (i := 107) rfl) rfl
theorem zw_985 : Cond.selects "MissingLampsModel" ({ cls := "MissingLampsModel", name := "runsOn", desc := "(I)V" } : MethodName) ({ cls := "MissingLampsModel", name := "runsOn", desc := "(I)V" } : MethodName) ∈ ztb := zs_in6 (q := (⟨"MissingLampsModel", "runsOn", "(I)V"⟩, 73)) (List.mem_of_getElem? (i := 10) rfl) rfl
theorem zw_986 : Cond.methodLink "MissingLampsModel" (524 : Nat) ({ cls := "MissingLampsModel", name := "turnsAll", desc := "(I)V" } : MethodName) ∈ ztb := zt_in7 (List.mem_of_getElem? (i := 141) rfl) rfl
theorem zw_987 : Cond.instanceMethod ({ cls := "MissingLampsModel", name := "turnsAll", desc := "(I)V" } : MethodName) ∈ ztb := zt_in7 (List.mem_of_getElem? (i := 143) rfl) rfl
theorem zw_988 : Cond.selects "MissingLampsModel" ({ cls := "MissingLampsModel", name := "turnsAll", desc := "(I)V" } : MethodName) ({ cls := "MissingLampsModel", name := "turnsAll", desc := "(I)V" } : MethodName) ∈ ztb := zs_in7 (q := (⟨"MissingLampsModel", "turnsAll", "(I)V"⟩, 73)) (List.mem_of_getElem? (i := 0) rfl) rfl
theorem zw_989 : Cond.methodLink "MissingLampsModel" (527 : Nat) ({ cls := "MissingLampsModel", name := "from", desc := "(II)I" } : MethodName) ∈ ztb := zt_in7 (List.mem_of_getElem? (i := 161) rfl) rfl
theorem zw_990 : Cond.static ({ cls := "MissingLampsModel", name := "from", desc := "(II)I" } : MethodName) ∈ ztb := zt_in7 (List.mem_of_getElem? (i := 162) rfl) rfl
theorem zw_991 : Cond.methodLink "MissingLampsModel" (530 : Nat) ({ cls := "MissingLampsModel", name := "costOf", desc := "(III)I" } : MethodName) ∈ ztb := zt_in7 (List.mem_of_getElem? (i := 164) rfl) rfl
theorem zw_992 : Cond.instanceMethod ({ cls := "MissingLampsModel", name := "costOf", desc := "(III)I" } : MethodName) ∈ ztb := zt_in7 (List.mem_of_getElem? (i := 166) rfl) rfl
theorem zw_993 : Cond.selects "MissingLampsModel" ({ cls := "MissingLampsModel", name := "costOf", desc := "(III)I" } : MethodName) ({ cls := "MissingLampsModel", name := "costOf", desc := "(III)I" } : MethodName) ∈ ztb := zs_in7 (q := (⟨"MissingLampsModel", "costOf", "(III)I"⟩, 73)) (List.mem_of_getElem? (i := 2) rfl) rfl
theorem zw_994 : Cond.methodLink "MissingLampsModel" (534 : Nat) ({ cls := "MissingLampsModel", name := "sends", desc := "()V" } : MethodName) ∈ ztb := zt_in7 (List.mem_of_getElem? (i := 157) rfl) rfl
theorem zw_995 : Cond.instanceMethod ({ cls := "MissingLampsModel", name := "sends", desc := "()V" } : MethodName) ∈ ztb := zt_in7 (List.mem_of_getElem? (i := 159) rfl) rfl
theorem zw_996 : Cond.selects "MissingLampsModel" ({ cls := "MissingLampsModel", name := "sends", desc := "()V" } : MethodName) ({ cls := "MissingLampsModel", name := "sends", desc := "()V" } : MethodName) ∈ ztb := zs_in7 (q := (⟨"MissingLampsModel", "sends", "()V"⟩, 73)) (List.mem_of_getElem? (i := 1) rfl) rfl
theorem zw_997 : Cond.methodLink "MissingLampsModel" (537 : Nat) ({ cls := "MissingLampsModel", name := "hueBits", desc := "(I)I" } : MethodName) ∈ ztb := zt_in7 (List.mem_of_getElem? (i := 180) rfl) rfl
theorem zw_998 : Cond.instanceMethod ({ cls := "MissingLampsModel", name := "hueBits", desc := "(I)I" } : MethodName) ∈ ztb := zt_in7 (List.mem_of_getElem? (i := 182) rfl) rfl
theorem zw_999 : Cond.selects "MissingLampsModel" ({ cls := "MissingLampsModel", name := "hueBits", desc := "(I)I" } : MethodName) ({ cls := "MissingLampsModel", name := "hueBits", desc := "(I)I" } : MethodName) ∈ ztb := zs_in7 (q := (⟨"MissingLampsModel", "hueBits", "(I)I"⟩, 73)) (List.mem_of_getElem? (i := 3) rfl) rfl
theorem zw_1000 : Cond.methodLink "MissingLampsModel" (540 : Nat) ({ cls := "MissingLampsModel", name := "mostBy", desc := "(III)I" } : MethodName) ∈ ztb := zt_in7 (List.mem_of_getElem? (i := 188) rfl) rfl
theorem zw_1001 : Cond.instanceMethod ({ cls := "MissingLampsModel", name := "mostBy", desc := "(III)I" } : MethodName) ∈ ztb := zt_in7 (List.mem_of_getElem? (i := 190) rfl) rfl
theorem zw_1002 : Cond.selects "MissingLampsModel" ({ cls := "MissingLampsModel", name := "mostBy", desc := "(III)I" } : MethodName) ({ cls := "MissingLampsModel", name := "mostBy", desc := "(III)I" } : MethodName) ∈ ztb := zs_in7 (q := (⟨"MissingLampsModel", "mostBy", "(III)I"⟩, 73)) (List.mem_of_getElem? (i := 4) rfl) rfl
theorem zw_1003 : Cond.methodLink "MissingLampsModel" (543 : Nat) ({ cls := "MissingLampsModel", name := "keeps", desc := "()V" } : MethodName) ∈ ztb := zt_in7 (List.mem_of_getElem? (i := 196) rfl) rfl
theorem zw_1004 : Cond.instanceMethod ({ cls := "MissingLampsModel", name := "keeps", desc := "()V" } : MethodName) ∈ ztb := zt_in7 (List.mem_of_getElem? (i := 198) rfl) rfl
theorem zw_1005 : Cond.selects "MissingLampsModel" ({ cls := "MissingLampsModel", name := "keeps", desc := "()V" } : MethodName) ({ cls := "MissingLampsModel", name := "keeps", desc := "()V" } : MethodName) ∈ ztb := zs_in7 (q := (⟨"MissingLampsModel", "keeps", "()V"⟩, 73)) (List.mem_of_getElem? (i := 5) rfl) rfl
theorem zw_1006 : Cond.constantLong "MissingLampsModel" (546 : Nat) (1103515245 : Int64) ∈ ztb := zt_in7 (List.mem_of_getElem? (i := 208) rfl) rfl
theorem zw_1007 : Cond.constantLong "MissingLampsModel" (548 : Nat) (12345 : Int64) ∈ ztb := zt_in7 (List.mem_of_getElem? (i := 209) rfl) rfl
theorem zw_1008 : Cond.constantLong "MissingLampsModel" (550 : Nat) (2147483648 : Int64) ∈ ztb := zt_in7 (List.mem_of_getElem? (i := 210) rfl) rfl
theorem zw_1009 : Cond.constantLong "MissingLampsModel" (552 : Nat) (64 : Int64) ∈ ztb := zt_in7 (List.mem_of_getElem? (i := 211) rfl) rfl
theorem zw_1010 : Cond.methodLink "MissingLampsModel" (554 : Nat) ({ cls := "MissingLampsModel", name := "draw", desc := "(I)I" } : MethodName) ∈ ztb := zt_in7 (List.mem_of_getElem? (i := 204) rfl) rfl
theorem zw_1011 : Cond.instanceMethod ({ cls := "MissingLampsModel", name := "draw", desc := "(I)I" } : MethodName) ∈ ztb := zt_in7 (List.mem_of_getElem? (i := 206) rfl) rfl
theorem zw_1012 : Cond.selects "MissingLampsModel" ({ cls := "MissingLampsModel", name := "draw", desc := "(I)I" } : MethodName) ({ cls := "MissingLampsModel", name := "draw", desc := "(I)I" } : MethodName) ∈ ztb := zs_in7 (q := (⟨"MissingLampsModel", "draw", "(I)I"⟩, 73)) (List.mem_of_getElem? (i := 6) rfl) rfl
theorem zw_1013 : Cond.methodLink "MissingLampsModel" (557 : Nat) ({ cls := "MissingLampsModel", name := "turnsNow", desc := "(IZ)Z" } : MethodName) ∈ ztb := zt_in7 (List.mem_of_getElem? (i := 216) rfl) rfl
theorem zw_1014 : Cond.instanceMethod ({ cls := "MissingLampsModel", name := "turnsNow", desc := "(IZ)Z" } : MethodName) ∈ ztb := zt_in7 (List.mem_of_getElem? (i := 218) rfl) rfl
theorem zw_1015 : Cond.selects "MissingLampsModel" ({ cls := "MissingLampsModel", name := "turnsNow", desc := "(IZ)Z" } : MethodName) ({ cls := "MissingLampsModel", name := "turnsNow", desc := "(IZ)Z" } : MethodName) ∈ ztb := zs_in7 (q := (⟨"MissingLampsModel", "turnsNow", "(IZ)Z"⟩, 73)) (List.mem_of_getElem? (i := 7) rfl) rfl
theorem zw_1016 : Cond.methodLink "MissingLampsModel" (561 : Nat) ({ cls := "MissingLampsModel", name := "writes", desc := "(I)V" } : MethodName) ∈ ztb := zt_in8 (List.mem_of_getElem? (i := 0) rfl) rfl
theorem zw_1017 : Cond.instanceMethod ({ cls := "MissingLampsModel", name := "writes", desc := "(I)V" } : MethodName) ∈ ztb := zt_in8 (List.mem_of_getElem? (i := 2) rfl) rfl
theorem zw_1018 : Cond.selects "MissingLampsModel" ({ cls := "MissingLampsModel", name := "writes", desc := "(I)V" } : MethodName) ({ cls := "MissingLampsModel", name := "writes", desc := "(I)V" } : MethodName) ∈ ztb := zs_in7 (q := (⟨"MissingLampsModel", "writes", "(I)V"⟩, 73)) (List.mem_of_getElem? (i := 8) rfl) rfl
theorem zw_1019 : Cond.methodLink "MissingLampsModel" (564 : Nat) ({ cls := "MissingLampsModel", name := "folkOn", desc := "(II)Z" } : MethodName) ∈ ztb := zt_in8 (List.mem_of_getElem? (i := 16) rfl) rfl
theorem zw_1020 : Cond.instanceMethod ({ cls := "MissingLampsModel", name := "folkOn", desc := "(II)Z" } : MethodName) ∈ ztb := zt_in8 (List.mem_of_getElem? (i := 18) rfl) rfl
theorem zw_1021 : Cond.selects "MissingLampsModel" ({ cls := "MissingLampsModel", name := "folkOn", desc := "(II)Z" } : MethodName) ({ cls := "MissingLampsModel", name := "folkOn", desc := "(II)Z" } : MethodName) ∈ ztb := zs_in7 (q := (⟨"MissingLampsModel", "folkOn", "(II)Z"⟩, 73)) (List.mem_of_getElem? (i := 10) rfl) rfl
theorem zw_1022 : Cond.methodLink "MissingLampsModel" (567 : Nat) ({ cls := "MissingLampsModel", name := "comesOn", desc := "(I)Z" } : MethodName) ∈ ztb := zt_in8 (List.mem_of_getElem? (i := 12) rfl) rfl
theorem zw_1023 : Cond.instanceMethod ({ cls := "MissingLampsModel", name := "comesOn", desc := "(I)Z" } : MethodName) ∈ ztb := zt_in8 (List.mem_of_getElem? (i := 14) rfl) rfl
theorem zw_1024 : Cond.selects "MissingLampsModel" ({ cls := "MissingLampsModel", name := "comesOn", desc := "(I)Z" } : MethodName) ({ cls := "MissingLampsModel", name := "comesOn", desc := "(I)Z" } : MethodName) ∈ ztb := zs_in7 (q := (⟨"MissingLampsModel", "comesOn", "(I)Z"⟩, 73)) (List.mem_of_getElem? (i := 9) rfl) rfl
theorem zw_1025 : Cond.constant "java/lang/Integer" (265 : Nat) (1431655765 : Int32) ∈ ztb := zt_in3 (List.mem_of_getElem? (i := 109) rfl) rfl
theorem zw_1026 : Cond.constant "java/lang/Integer" (266 : Nat) (858993459 : Int32) ∈ ztb := zt_in3 (List.mem_of_getElem? (i := 110) rfl) rfl
theorem zw_1027 : Cond.constant "java/lang/Integer" (267 : Nat) (252645135 : Int32) ∈ ztb := zt_in3 (List.mem_of_getElem? (i := 111) rfl) rfl
theorem zw_1028 : Cond.constantLong "java/lang/Long" (314 : Nat) (6148914691236517205 : Int64) ∈ ztb := zt_in3 (List.mem_of_getElem? (i := 103) rfl) rfl
theorem zw_1029 : Cond.constantLong "java/lang/Long" (316 : Nat) (3689348814741910323 : Int64) ∈ ztb := zt_in3 (List.mem_of_getElem? (i := 104) rfl) rfl
theorem zw_1030 : Cond.constantLong "java/lang/Long" (318 : Nat) (1085102592571150095 : Int64) ∈ ztb := zt_in3 (List.mem_of_getElem? (i := 105) rfl) rfl
theorem zw_1031 : Cond.fieldLink "java/lang/String" (9 : Nat) "java/lang/String" "value" "[B" ∈ ztb := zt_in8 (List.mem_of_getElem? (i := 20) rfl) rfl
theorem zw_1032 : Cond.methodLink "java/lang/String" (335 : Nat) ({ cls := "java/lang/String", name := "coder", desc := "()B" } : MethodName) ∈ ztb := zt_in0 (List.mem_of_getElem? (i := 178) rfl) rfl
theorem zw_1033 : Cond.instanceMethod ({ cls := "java/lang/String", name := "coder", desc := "()B" } : MethodName) ∈ ztb := zt_in0 (List.mem_of_getElem? (i := 179) rfl) rfl
theorem zw_1034 : Cond.selects "java/lang/String" ({ cls := "java/lang/String", name := "coder", desc := "()B" } : MethodName) ({ cls := "java/lang/String", name := "coder", desc := "()B" } : MethodName) ∈ ztb := zt_in0 (List.mem_of_getElem? (i := 180) rfl) rfl
theorem zw_1035 : Cond.methodLink "java/lang/String" (492 : Nat) ({ cls := "java/lang/String", name := "isLatin1", desc := "()Z" } : MethodName) ∈ ztb := zt_in0 (List.mem_of_getElem? (i := 188) rfl) rfl
theorem zw_1036 : Cond.instanceMethod ({ cls := "java/lang/String", name := "isLatin1", desc := "()Z" } : MethodName) ∈ ztb := zt_in0 (List.mem_of_getElem? (i := 189) rfl) rfl
theorem zw_1037 : Cond.selects "java/lang/String" ({ cls := "java/lang/String", name := "isLatin1", desc := "()Z" } : MethodName) ({ cls := "java/lang/String", name := "isLatin1", desc := "()Z" } : MethodName) ∈ ztb := zt_in0 (List.mem_of_getElem? (i := 190) rfl) rfl
theorem zw_1038 : Cond.methodLink "java/lang/String" (495 : Nat) ({ cls := "java/lang/StringLatin1", name := "charAt", desc := "([BI)C" } : MethodName) ∈ ztb := zt_in0 (List.mem_of_getElem? (i := 192) rfl) rfl
theorem zw_1039 : Cond.static ({ cls := "java/lang/StringLatin1", name := "charAt", desc := "([BI)C" } : MethodName) ∈ ztb := zt_in0 (List.mem_of_getElem? (i := 193) rfl) rfl
theorem zw_1040 : Cond.fieldLink "java/lang/String" (38 : Nat) "java/lang/String" "COMPACT_STRINGS" "Z" ∈ ztb := zt_in0 (List.mem_of_getElem? (i := 182) rfl) rfl
theorem zw_1041 : Cond.fieldLink "java/lang/String" (15 : Nat) "java/lang/String" "coder" "B" ∈ ztb := zt_in8 (List.mem_of_getElem? (i := 21) rfl) rfl
theorem zw_1042 : Cond.fieldLink "java/lang/String" (1053 : Nat) "jdk/internal/util/Preconditions" "SIOOBE_FORMATTER" "Ljava/util/function/BiFunction;" ∈ ztb := zt_in0 (List.mem_of_getElem? (i := 198) rfl) rfl
theorem zw_1043 : Cond.methodLink "java/lang/String" (1059 : Nat) ({ cls := "jdk/internal/util/Preconditions", name := "checkIndex", desc := "(IILjava/util/function/BiFunction;)I" } : MethodName) ∈ ztb := zt_in0 (List.mem_of_getElem? (i := 200) rfl) rfl
theorem zw_1044 : Cond.static ({ cls := "jdk/internal/util/Preconditions", name := "checkIndex", desc := "(IILjava/util/function/BiFunction;)I" } : MethodName) ∈ ztb := zt_in0 (List.mem_of_getElem? (i := 201) rfl) rfl
theorem zw_1045 : Cond.methodLink "java/lang/StringLatin1" (9 : Nat) ({ cls := "java/lang/String", name := "checkIndex", desc := "(II)V" } : MethodName) ∈ ztb := zt_in0 (List.mem_of_getElem? (i := 195) rfl) rfl
theorem zw_1046 : Cond.static ({ cls := "java/lang/String", name := "checkIndex", desc := "(II)V" } : MethodName) ∈ ztb := zt_in0 (List.mem_of_getElem? (i := 196) rfl) rfl
theorem zw_1047 : Cond.lays "MissingLamps$Harbour" "MissingLamps$Harbour" "plan" "LMissingLamps$Quay;" ∈ ztb := zt_in1 (List.mem_of_getElem? (i := 201) rfl) rfl
theorem zw_1048 : Cond.laysFinal "MissingLamps$Harbour" "MissingLamps$Harbour" "reckoner" "LMissingLamps$Reckoner;" ∈ ztb := zt_in1 (List.mem_of_getElem? (i := 203) rfl) rfl
theorem zw_1049 : Cond.laysFinal "MissingLamps$Harbour" "MissingLamps$Harbour" "rings" "[J" ∈ ztb := zt_in1 (List.mem_of_getElem? (i := 205) rfl) rfl
theorem zw_1050 : Cond.lays "MissingLamps$Harbour" "MissingLamps$Harbour" "foundThings" "I" ∈ ztb := zt_in1 (List.mem_of_getElem? (i := 207) rfl) rfl
theorem zw_1051 : Cond.lays "MissingLamps$Harbour" "MissingLamps$Harbour" "lostThings" "I" ∈ ztb := zt_in1 (List.mem_of_getElem? (i := 209) rfl) rfl
theorem zw_1052 : Cond.laysFinal "MissingLamps$KeptRows" "MissingLamps$KeptRows" "nights" "[I" ∈ ztb := zt_in1 (List.mem_of_getElem? (i := 118) rfl) rfl
theorem zw_1053 : Cond.laysFinal "MissingLamps$KeptRows" "MissingLamps$KeptRows" "things" "[I" ∈ ztb := zt_in1 (List.mem_of_getElem? (i := 120) rfl) rfl
theorem zw_1054 : Cond.laysFinal "MissingLamps$KeptRows" "MissingLamps$KeptRows" "founds" "[I" ∈ ztb := zt_in1 (List.mem_of_getElem? (i := 122) rfl) rfl
theorem zw_1055 : Cond.lays "MissingLamps$KeptRows" "MissingLamps$KeptRows" "size" "I" ∈ ztb := zt_in1 (List.mem_of_getElem? (i := 124) rfl) rfl
theorem zw_1056 : Cond.laysFinal "MissingLamps$Past" "MissingLamps$Past" "states" "[LMissingLamps$State;" ∈ ztb := zt_in1 (List.mem_of_getElem? (i := 144) rfl) rfl
theorem zw_1057 : Cond.laysFinal "MissingLamps$Past" "MissingLamps$Past" "rows" "[LMissingLamps$KeptRows;" ∈ ztb := zt_in1 (List.mem_of_getElem? (i := 146) rfl) rfl
theorem zw_1058 : Cond.lays "MissingLamps$Past" "MissingLamps$Past" "next" "I" ∈ ztb := zt_in1 (List.mem_of_getElem? (i := 148) rfl) rfl
theorem zw_1059 : Cond.lays "MissingLamps$Past" "MissingLamps$Past" "size" "I" ∈ ztb := zt_in1 (List.mem_of_getElem? (i := 150) rfl) rfl
theorem zw_1060 : Cond.laysFinal "MissingLamps$Planner" "MissingLamps$Planner" "harbour" "LMissingLamps$Harbour;" ∈ ztb := zt_in2 (List.mem_of_getElem? (i := 1) rfl) rfl
theorem zw_1061 : Cond.laysFinal "MissingLamps$Planner" "MissingLamps$Planner" "trials" "[LMissingLamps$State;" ∈ ztb := zt_in2 (List.mem_of_getElem? (i := 3) rfl) rfl
theorem zw_1062 : Cond.laysFinal "MissingLamps$Planner" "MissingLamps$Planner" "lights" "[J" ∈ ztb := zt_in2 (List.mem_of_getElem? (i := 5) rfl) rfl
theorem zw_1063 : Cond.laysFinal "MissingLamps$Planner" "MissingLamps$Planner" "steps" "[I" ∈ ztb := zt_in2 (List.mem_of_getElem? (i := 7) rfl) rfl
theorem zw_1064 : Cond.laysFinal "MissingLamps$Planner" "MissingLamps$Planner" "worths" "[I" ∈ ztb := zt_in2 (List.mem_of_getElem? (i := 9) rfl) rfl
theorem zw_1065 : Cond.laysFinal "MissingLamps$Planner" "MissingLamps$Planner" "sentThings" "[I" ∈ ztb := zt_in2 (List.mem_of_getElem? (i := 11) rfl) rfl
theorem zw_1066 : Cond.lays "MissingLamps$Planner" "MissingLamps$Planner" "sentCount" "I" ∈ ztb := zt_in2 (List.mem_of_getElem? (i := 13) rfl) rfl
theorem zw_1067 : Cond.lays "MissingLamps$Planner" "MissingLamps$Planner" "sentSteps" "I" ∈ ztb := zt_in2 (List.mem_of_getElem? (i := 15) rfl) rfl
theorem zw_1068 : Cond.laysFinal "MissingLamps$Planner" "MissingLamps$Planner" "met" "[I" ∈ ztb := zt_in2 (List.mem_of_getElem? (i := 17) rfl) rfl
theorem zw_1069 : Cond.lays "MissingLamps$Planner" "MissingLamps$Planner" "metCount" "I" ∈ ztb := zt_in2 (List.mem_of_getElem? (i := 19) rfl) rfl
theorem zw_1070 : Cond.lays "MissingLamps$Planner" "MissingLamps$Planner" "tellingNights" "I" ∈ ztb := zt_in2 (List.mem_of_getElem? (i := 21) rfl) rfl
theorem zw_1071 : Cond.lays "MissingLamps$Planner" "MissingLamps$Planner" "tellingFolk" "I" ∈ ztb := zt_in2 (List.mem_of_getElem? (i := 23) rfl) rfl
theorem zw_1072 : Cond.lays "MissingLamps$Planner" "MissingLamps$Planner" "tellingLeft" "I" ∈ ztb := zt_in2 (List.mem_of_getElem? (i := 25) rfl) rfl
theorem zw_1073 : Cond.lays "MissingLamps$Quay" "MissingLamps$Quay" "statements" "I" ∈ ztb := zt_in0 (List.mem_of_getElem? (i := 124) rfl) rfl
theorem zw_1074 : Cond.lays "MissingLamps$Quay" "MissingLamps$Quay" "columns" "I" ∈ ztb := zt_in0 (List.mem_of_getElem? (i := 126) rfl) rfl
theorem zw_1075 : Cond.lays "MissingLamps$Quay" "MissingLamps$Quay" "rows" "I" ∈ ztb := zt_in0 (List.mem_of_getElem? (i := 128) rfl) rfl
theorem zw_1076 : Cond.lays "MissingLamps$Quay" "MissingLamps$Quay" "pace" "I" ∈ ztb := zt_in0 (List.mem_of_getElem? (i := 130) rfl) rfl
theorem zw_1077 : Cond.lays "MissingLamps$Quay" "MissingLamps$Quay" "gale" "I" ∈ ztb := zt_in0 (List.mem_of_getElem? (i := 132) rfl) rfl
theorem zw_1078 : Cond.lays "MissingLamps$Quay" "MissingLamps$Quay" "ground" "J" ∈ ztb := zt_in0 (List.mem_of_getElem? (i := 134) rfl) rfl
theorem zw_1079 : Cond.lays "MissingLamps$Quay" "MissingLamps$Quay" "walls" "J" ∈ ztb := zt_in0 (List.mem_of_getElem? (i := 136) rfl) rfl
theorem zw_1080 : Cond.lays "MissingLamps$Quay" "MissingLamps$Quay" "things" "I" ∈ ztb := zt_in0 (List.mem_of_getElem? (i := 138) rfl) rfl
theorem zw_1081 : Cond.laysFinal "MissingLamps$Quay" "MissingLamps$Quay" "thingNames" "[I" ∈ ztb := zt_in0 (List.mem_of_getElem? (i := 140) rfl) rfl
theorem zw_1082 : Cond.laysFinal "MissingLamps$Quay" "MissingLamps$Quay" "thingPlaces" "[I" ∈ ztb := zt_in0 (List.mem_of_getElem? (i := 142) rfl) rfl
theorem zw_1083 : Cond.laysFinal "MissingLamps$Quay" "MissingLamps$Quay" "thingHues" "[I" ∈ ztb := zt_in0 (List.mem_of_getElem? (i := 144) rfl) rfl
theorem zw_1084 : Cond.laysFinal "MissingLamps$Quay" "MissingLamps$Quay" "thingHighs" "[I" ∈ ztb := zt_in0 (List.mem_of_getElem? (i := 146) rfl) rfl
theorem zw_1085 : Cond.lays "MissingLamps$Quay" "MissingLamps$Quay" "missingFirst" "I" ∈ ztb := zt_in0 (List.mem_of_getElem? (i := 148) rfl) rfl
theorem zw_1086 : Cond.lays "MissingLamps$Quay" "MissingLamps$Quay" "folk" "I" ∈ ztb := zt_in0 (List.mem_of_getElem? (i := 150) rfl) rfl
theorem zw_1087 : Cond.laysFinal "MissingLamps$Quay" "MissingLamps$Quay" "folkNames" "[I" ∈ ztb := zt_in0 (List.mem_of_getElem? (i := 152) rfl) rfl
theorem zw_1088 : Cond.laysFinal "MissingLamps$Quay" "MissingLamps$Quay" "starts" "[I" ∈ ztb := zt_in0 (List.mem_of_getElem? (i := 154) rfl) rfl
theorem zw_1089 : Cond.laysFinal "MissingLamps$Quay" "MissingLamps$Quay" "homes" "[I" ∈ ztb := zt_in0 (List.mem_of_getElem? (i := 156) rfl) rfl
theorem zw_1090 : Cond.laysFinal "MissingLamps$Quay" "MissingLamps$Quay" "rules" "LMissingLamps$Rules;" ∈ ztb := zt_in0 (List.mem_of_getElem? (i := 158) rfl) rfl
theorem zw_1091 : Cond.laysFinal "MissingLamps$Reader" "MissingLamps$Reader" "ownNames" "[I" ∈ ztb := zt_in1 (List.mem_of_getElem? (i := 5) rfl) rfl
theorem zw_1092 : Cond.lays "MissingLamps$Reader" "MissingLamps$Reader" "text" "[I" ∈ ztb := zt_in1 (List.mem_of_getElem? (i := 7) rfl) rfl
theorem zw_1093 : Cond.lays "MissingLamps$Reader" "MissingLamps$Reader" "length" "I" ∈ ztb := zt_in1 (List.mem_of_getElem? (i := 9) rfl) rfl
theorem zw_1094 : Cond.lays "MissingLamps$Reader" "MissingLamps$Reader" "at" "I" ∈ ztb := zt_in1 (List.mem_of_getElem? (i := 11) rfl) rfl
theorem zw_1095 : Cond.lays "MissingLamps$Reader" "MissingLamps$Reader" "kind" "I" ∈ ztb := zt_in1 (List.mem_of_getElem? (i := 13) rfl) rfl
theorem zw_1096 : Cond.lays "MissingLamps$Reader" "MissingLamps$Reader" "value" "I" ∈ ztb := zt_in1 (List.mem_of_getElem? (i := 15) rfl) rfl
theorem zw_1097 : Cond.lays "MissingLamps$Reader" "MissingLamps$Reader" "first" "I" ∈ ztb := zt_in1 (List.mem_of_getElem? (i := 17) rfl) rfl
theorem zw_1098 : Cond.lays "MissingLamps$Reader" "MissingLamps$Reader" "place" "I" ∈ ztb := zt_in1 (List.mem_of_getElem? (i := 19) rfl) rfl
theorem zw_1099 : Cond.lays "MissingLamps$Reader" "MissingLamps$Reader" "taken" "I" ∈ ztb := zt_in1 (List.mem_of_getElem? (i := 21) rfl) rfl
theorem zw_1100 : Cond.lays "MissingLamps$Reader" "MissingLamps$Reader" "takenPlace" "I" ∈ ztb := zt_in1 (List.mem_of_getElem? (i := 23) rfl) rfl
theorem zw_1101 : Cond.lays "MissingLamps$Reader" "MissingLamps$Reader" "faultKind" "I" ∈ ztb := zt_in1 (List.mem_of_getElem? (i := 25) rfl) rfl
theorem zw_1102 : Cond.lays "MissingLamps$Reader" "MissingLamps$Reader" "faultPlace" "I" ∈ ztb := zt_in1 (List.mem_of_getElem? (i := 27) rfl) rfl
theorem zw_1103 : Cond.laysFinal "MissingLamps$Reckoner" "MissingLamps$Reckoner" "stack" "[I" ∈ ztb := zt_in1 (List.mem_of_getElem? (i := 178) rfl) rfl
theorem zw_1104 : Cond.lays "MissingLamps$Reckoner" "MissingLamps$Reckoner" "night" "I" ∈ ztb := zt_in1 (List.mem_of_getElem? (i := 180) rfl) rfl
theorem zw_1105 : Cond.lays "MissingLamps$Reckoner" "MissingLamps$Reckoner" "hue" "I" ∈ ztb := zt_in1 (List.mem_of_getElem? (i := 182) rfl) rfl
theorem zw_1106 : Cond.lays "MissingLamps$Reckoner" "MissingLamps$Reckoner" "high" "I" ∈ ztb := zt_in1 (List.mem_of_getElem? (i := 184) rfl) rfl
theorem zw_1107 : Cond.lays "MissingLamps$Reckoner" "MissingLamps$Reckoner" "age" "I" ∈ ztb := zt_in1 (List.mem_of_getElem? (i := 186) rfl) rfl
theorem zw_1108 : Cond.lays "MissingLamps$Reckoner" "MissingLamps$Reckoner" "lost" "I" ∈ ztb := zt_in1 (List.mem_of_getElem? (i := 188) rfl) rfl
theorem zw_1109 : Cond.lays "MissingLamps$Reckoner" "MissingLamps$Reckoner" "near" "I" ∈ ztb := zt_in1 (List.mem_of_getElem? (i := 190) rfl) rfl
theorem zw_1110 : Cond.laysFinal "MissingLamps$Rules" "MissingLamps$Rules" "code" "[I" ∈ ztb := zt_in0 (List.mem_of_getElem? (i := 49) rfl) rfl
theorem zw_1111 : Cond.laysFinal "MissingLamps$Rules" "MissingLamps$Rules" "firsts" "[I" ∈ ztb := zt_in0 (List.mem_of_getElem? (i := 51) rfl) rfl
theorem zw_1112 : Cond.laysFinal "MissingLamps$Rules" "MissingLamps$Rules" "ends" "[I" ∈ ztb := zt_in0 (List.mem_of_getElem? (i := 53) rfl) rfl
theorem zw_1113 : Cond.lays "MissingLamps$Rules" "MissingLamps$Rules" "size" "I" ∈ ztb := zt_in0 (List.mem_of_getElem? (i := 55) rfl) rfl
theorem zw_1114 : Cond.lays "MissingLamps$State" "MissingLamps$State" "night" "I" ∈ ztb := zt_in1 (List.mem_of_getElem? (i := 91) rfl) rfl
theorem zw_1115 : Cond.lays "MissingLamps$State" "MissingLamps$State" "missing" "I" ∈ ztb := zt_in1 (List.mem_of_getElem? (i := 93) rfl) rfl
theorem zw_1116 : Cond.laysFinal "MissingLamps$State" "MissingLamps$State" "ages" "[I" ∈ ztb := zt_in1 (List.mem_of_getElem? (i := 95) rfl) rfl
theorem zw_1117 : Cond.laysFinal "MissingLamps$State" "MissingLamps$State" "places" "[I" ∈ ztb := zt_in1 (List.mem_of_getElem? (i := 97) rfl) rfl
theorem zw_1118 : Cond.lays "MissingLamps$State" "MissingLamps$State" "supposedThing" "I" ∈ ztb := zt_in1 (List.mem_of_getElem? (i := 99) rfl) rfl
theorem zw_1119 : Cond.lays "MissingLamps$State" "MissingLamps$State" "supposedHue" "I" ∈ ztb := zt_in1 (List.mem_of_getElem? (i := 101) rfl) rfl
theorem zw_1120 : Cond.laysFinal "MissingLamps$StatementReader" "MissingLamps$StatementReader" "reader" "LMissingLamps$Reader;" ∈ ztb := zt_in1 (List.mem_of_getElem? (i := 51) rfl) rfl
theorem zw_1121 : Cond.laysFinal "MissingLamps$StatementReader" "MissingLamps$StatementReader" "sums" "LMissingLamps$SumReader;" ∈ ztb := zt_in1 (List.mem_of_getElem? (i := 53) rfl) rfl
theorem zw_1122 : Cond.lays "MissingLamps$StatementReader" "MissingLamps$StatementReader" "target" "LMissingLamps$Quay;" ∈ ztb := zt_in1 (List.mem_of_getElem? (i := 55) rfl) rfl
theorem zw_1123 : Cond.lays "MissingLamps$StatementReader" "MissingLamps$StatementReader" "spot" "I" ∈ ztb := zt_in1 (List.mem_of_getElem? (i := 57) rfl) rfl
theorem zw_1124 : Cond.laysFinal "MissingLamps$SumReader" "MissingLamps$SumReader" "reader" "LMissingLamps$Reader;" ∈ ztb := zt_in1 (List.mem_of_getElem? (i := 40) rfl) rfl
theorem zw_1125 : Cond.lays "MissingLamps$SumReader" "MissingLamps$SumReader" "rules" "LMissingLamps$Rules;" ∈ ztb := zt_in1 (List.mem_of_getElem? (i := 42) rfl) rfl
theorem zw_1126 : Cond.lays "MissingLamps$SumReader" "MissingLamps$SumReader" "rule" "I" ∈ ztb := zt_in1 (List.mem_of_getElem? (i := 44) rfl) rfl
theorem zw_1127 : Cond.laysFinal "MissingLamps" "MissingLamps" "tape" "[I" ∈ ztb := zt_in2 (List.mem_of_getElem? (i := 44) rfl) rfl
theorem zw_1128 : Cond.lays "MissingLamps" "MissingLamps" "tapeSize" "I" ∈ ztb := zt_in2 (List.mem_of_getElem? (i := 46) rfl) rfl
theorem zw_1129 : Cond.lays "MissingLamps" "MissingLamps" "faultKind" "I" ∈ ztb := zt_in2 (List.mem_of_getElem? (i := 48) rfl) rfl
theorem zw_1130 : Cond.lays "MissingLamps" "MissingLamps" "faultPlace" "I" ∈ ztb := zt_in2 (List.mem_of_getElem? (i := 50) rfl) rfl
theorem zw_1131 : Cond.lays "MissingLamps" "MissingLamps" "plan" "LMissingLamps$Quay;" ∈ ztb := zt_in2 (List.mem_of_getElem? (i := 52) rfl) rfl
theorem zw_1132 : Cond.lays "MissingLamps" "MissingLamps" "spare" "LMissingLamps$Quay;" ∈ ztb := zt_in2 (List.mem_of_getElem? (i := 54) rfl) rfl
theorem zw_1133 : Cond.laysFinal "MissingLamps" "MissingLamps" "statements" "LMissingLamps$StatementReader;" ∈ ztb := zt_in2 (List.mem_of_getElem? (i := 56) rfl) rfl
theorem zw_1134 : Cond.laysFinal "MissingLamps" "MissingLamps" "now" "LMissingLamps$State;" ∈ ztb := zt_in2 (List.mem_of_getElem? (i := 58) rfl) rfl
theorem zw_1135 : Cond.laysFinal "MissingLamps" "MissingLamps" "keptRows" "LMissingLamps$KeptRows;" ∈ ztb := zt_in2 (List.mem_of_getElem? (i := 60) rfl) rfl
theorem zw_1136 : Cond.laysFinal "MissingLamps" "MissingLamps" "past" "LMissingLamps$Past;" ∈ ztb := zt_in2 (List.mem_of_getElem? (i := 62) rfl) rfl
theorem zw_1137 : Cond.laysFinal "MissingLamps" "MissingLamps" "harbour" "LMissingLamps$Harbour;" ∈ ztb := zt_in2 (List.mem_of_getElem? (i := 64) rfl) rfl
theorem zw_1138 : Cond.laysFinal "MissingLamps" "MissingLamps" "planner" "LMissingLamps$Planner;" ∈ ztb := zt_in2 (List.mem_of_getElem? (i := 66) rfl) rfl
theorem zw_1139 : Cond.laysFinal "MissingLamps" "MissingLamps" "imageBytes" "[I" ∈ ztb := zt_in2 (List.mem_of_getElem? (i := 68) rfl) rfl
theorem zw_1140 : Cond.lays "MissingLamps" "MissingLamps" "imageSize" "I" ∈ ztb := zt_in2 (List.mem_of_getElem? (i := 70) rfl) rfl
theorem zw_1141 : Cond.laysFinal "MissingLamps" "MissingLamps" "refusals" "[I" ∈ ztb := zt_in2 (List.mem_of_getElem? (i := 72) rfl) rfl
theorem zw_1142 : Cond.lays "MissingLamps" "MissingLamps" "drawn" "I" ∈ ztb := zt_in2 (List.mem_of_getElem? (i := 74) rfl) rfl
theorem zw_1143 : Cond.laysFinal "MissingLampsModel" "MissingLampsModel" "tape" "[I" ∈ ztb := zt_in5 (List.mem_of_getElem? (i := 114) rfl) rfl
theorem zw_1144 : Cond.lays "MissingLampsModel" "MissingLampsModel" "taped" "I" ∈ ztb := zt_in5 (List.mem_of_getElem? (i := 116) rfl) rfl
theorem zw_1145 : Cond.lays "MissingLampsModel" "MissingLampsModel" "size" "I" ∈ ztb := zt_in5 (List.mem_of_getElem? (i := 118) rfl) rfl
theorem zw_1146 : Cond.lays "MissingLampsModel" "MissingLampsModel" "sign" "I" ∈ ztb := zt_in5 (List.mem_of_getElem? (i := 120) rfl) rfl
theorem zw_1147 : Cond.lays "MissingLampsModel" "MissingLampsModel" "signAt" "I" ∈ ztb := zt_in5 (List.mem_of_getElem? (i := 122) rfl) rfl
theorem zw_1148 : Cond.lays "MissingLampsModel" "MissingLampsModel" "signEnd" "I" ∈ ztb := zt_in5 (List.mem_of_getElem? (i := 124) rfl) rfl
theorem zw_1149 : Cond.lays "MissingLampsModel" "MissingLampsModel" "value" "I" ∈ ztb := zt_in5 (List.mem_of_getElem? (i := 126) rfl) rfl
theorem zw_1150 : Cond.lays "MissingLampsModel" "MissingLampsModel" "word" "J" ∈ ztb := zt_in5 (List.mem_of_getElem? (i := 128) rfl) rfl
theorem zw_1151 : Cond.lays "MissingLampsModel" "MissingLampsModel" "faultKind" "I" ∈ ztb := zt_in5 (List.mem_of_getElem? (i := 130) rfl) rfl
theorem zw_1152 : Cond.lays "MissingLampsModel" "MissingLampsModel" "faultPlace" "I" ∈ ztb := zt_in5 (List.mem_of_getElem? (i := 132) rfl) rfl
theorem zw_1153 : Cond.lays "MissingLampsModel" "MissingLampsModel" "toldKind" "I" ∈ ztb := zt_in5 (List.mem_of_getElem? (i := 134) rfl) rfl
theorem zw_1154 : Cond.lays "MissingLampsModel" "MissingLampsModel" "toldPlace" "I" ∈ ztb := zt_in5 (List.mem_of_getElem? (i := 136) rfl) rfl
theorem zw_1155 : Cond.lays "MissingLampsModel" "MissingLampsModel" "lexAt" "I" ∈ ztb := zt_in5 (List.mem_of_getElem? (i := 138) rfl) rfl
theorem zw_1156 : Cond.lays "MissingLampsModel" "MissingLampsModel" "bank" "I" ∈ ztb := zt_in5 (List.mem_of_getElem? (i := 140) rfl) rfl
theorem zw_1157 : Cond.laysFinal "MissingLampsModel" "MissingLampsModel" "columns" "[I" ∈ ztb := zt_in5 (List.mem_of_getElem? (i := 142) rfl) rfl
theorem zw_1158 : Cond.laysFinal "MissingLampsModel" "MissingLampsModel" "rows" "[I" ∈ ztb := zt_in5 (List.mem_of_getElem? (i := 144) rfl) rfl
theorem zw_1159 : Cond.laysFinal "MissingLampsModel" "MissingLampsModel" "paceTold" "[I" ∈ ztb := zt_in5 (List.mem_of_getElem? (i := 146) rfl) rfl
theorem zw_1160 : Cond.laysFinal "MissingLampsModel" "MissingLampsModel" "galeTold" "[I" ∈ ztb := zt_in5 (List.mem_of_getElem? (i := 148) rfl) rfl
theorem zw_1161 : Cond.laysFinal "MissingLampsModel" "MissingLampsModel" "wallTold" "[I" ∈ ztb := zt_in5 (List.mem_of_getElem? (i := 150) rfl) rfl
theorem zw_1162 : Cond.laysFinal "MissingLampsModel" "MissingLampsModel" "things" "[I" ∈ ztb := zt_in5 (List.mem_of_getElem? (i := 152) rfl) rfl
theorem zw_1163 : Cond.laysFinal "MissingLampsModel" "MissingLampsModel" "thingAt" "[I" ∈ ztb := zt_in5 (List.mem_of_getElem? (i := 154) rfl) rfl
theorem zw_1164 : Cond.laysFinal "MissingLampsModel" "MissingLampsModel" "hueTold" "[I" ∈ ztb := zt_in5 (List.mem_of_getElem? (i := 156) rfl) rfl
theorem zw_1165 : Cond.laysFinal "MissingLampsModel" "MissingLampsModel" "highOf" "[I" ∈ ztb := zt_in5 (List.mem_of_getElem? (i := 158) rfl) rfl
theorem zw_1166 : Cond.laysFinal "MissingLampsModel" "MissingLampsModel" "hasTold" "[I" ∈ ztb := zt_in5 (List.mem_of_getElem? (i := 160) rfl) rfl
theorem zw_1167 : Cond.laysFinal "MissingLampsModel" "MissingLampsModel" "folks" "[I" ∈ ztb := zt_in5 (List.mem_of_getElem? (i := 162) rfl) rfl
theorem zw_1168 : Cond.laysFinal "MissingLampsModel" "MissingLampsModel" "folkTold" "[I" ∈ ztb := zt_in5 (List.mem_of_getElem? (i := 164) rfl) rfl
theorem zw_1169 : Cond.laysFinal "MissingLampsModel" "MissingLampsModel" "homeOf" "[I" ∈ ztb := zt_in5 (List.mem_of_getElem? (i := 166) rfl) rfl
theorem zw_1170 : Cond.laysFinal "MissingLampsModel" "MissingLampsModel" "sumFrom" "[I" ∈ ztb := zt_in5 (List.mem_of_getElem? (i := 168) rfl) rfl
theorem zw_1171 : Cond.laysFinal "MissingLampsModel" "MissingLampsModel" "sumBehind" "[I" ∈ ztb := zt_in5 (List.mem_of_getElem? (i := 170) rfl) rfl
theorem zw_1172 : Cond.laysFinal "MissingLampsModel" "MissingLampsModel" "codeSort" "[I" ∈ ztb := zt_in5 (List.mem_of_getElem? (i := 172) rfl) rfl
theorem zw_1173 : Cond.laysFinal "MissingLampsModel" "MissingLampsModel" "codeValue" "[I" ∈ ztb := zt_in5 (List.mem_of_getElem? (i := 174) rfl) rfl
theorem zw_1174 : Cond.laysFinal "MissingLampsModel" "MissingLampsModel" "thingName" "[J" ∈ ztb := zt_in5 (List.mem_of_getElem? (i := 176) rfl) rfl
theorem zw_1175 : Cond.laysFinal "MissingLampsModel" "MissingLampsModel" "folkName" "[J" ∈ ztb := zt_in5 (List.mem_of_getElem? (i := 178) rfl) rfl
theorem zw_1176 : Cond.lays "MissingLampsModel" "MissingLampsModel" "codes" "I" ∈ ztb := zt_in5 (List.mem_of_getElem? (i := 180) rfl) rfl
theorem zw_1177 : Cond.lays "MissingLampsModel" "MissingLampsModel" "in" "I" ∈ ztb := zt_in5 (List.mem_of_getElem? (i := 182) rfl) rfl
theorem zw_1178 : Cond.lays "MissingLampsModel" "MissingLampsModel" "law" "I" ∈ ztb := zt_in5 (List.mem_of_getElem? (i := 184) rfl) rfl
theorem zw_1179 : Cond.laysFinal "MissingLampsModel" "MissingLampsModel" "frame" "[I" ∈ ztb := zt_in5 (List.mem_of_getElem? (i := 186) rfl) rfl
theorem zw_1180 : Cond.laysFinal "MissingLampsModel" "MissingLampsModel" "phase" "[I" ∈ ztb := zt_in5 (List.mem_of_getElem? (i := 188) rfl) rfl
theorem zw_1181 : Cond.laysFinal "MissingLampsModel" "MissingLampsModel" "begins" "[Z" ∈ ztb := zt_in5 (List.mem_of_getElem? (i := 190) rfl) rfl
theorem zw_1182 : Cond.laysFinal "MissingLampsModel" "MissingLampsModel" "pair" "[I" ∈ ztb := zt_in5 (List.mem_of_getElem? (i := 192) rfl) rfl
theorem zw_1183 : Cond.laysFinal "MissingLampsModel" "MissingLampsModel" "base" "[I" ∈ ztb := zt_in5 (List.mem_of_getElem? (i := 194) rfl) rfl
theorem zw_1184 : Cond.lays "MissingLampsModel" "MissingLampsModel" "deep" "I" ∈ ztb := zt_in5 (List.mem_of_getElem? (i := 196) rfl) rfl
theorem zw_1185 : Cond.lays "MissingLampsModel" "MissingLampsModel" "open" "I" ∈ ztb := zt_in5 (List.mem_of_getElem? (i := 198) rfl) rfl
theorem zw_1186 : Cond.laysFinal "MissingLampsModel" "MissingLampsModel" "ops" "[I" ∈ ztb := zt_in5 (List.mem_of_getElem? (i := 200) rfl) rfl
theorem zw_1187 : Cond.lays "MissingLampsModel" "MissingLampsModel" "opMany" "I" ∈ ztb := zt_in5 (List.mem_of_getElem? (i := 202) rfl) rfl
theorem zw_1188 : Cond.lays "MissingLampsModel" "MissingLampsModel" "operand" "Z" ∈ ztb := zt_in5 (List.mem_of_getElem? (i := 204) rfl) rfl
theorem zw_1189 : Cond.lays "MissingLampsModel" "MissingLampsModel" "isQuay" "Z" ∈ ztb := zt_in5 (List.mem_of_getElem? (i := 206) rfl) rfl
theorem zw_1190 : Cond.laysFinal "MissingLampsModel" "MissingLampsModel" "refused" "[I" ∈ ztb := zt_in5 (List.mem_of_getElem? (i := 208) rfl) rfl
theorem zw_1191 : Cond.laysFinal "MissingLampsModel" "MissingLampsModel" "nightOf" "[I" ∈ ztb := zt_in5 (List.mem_of_getElem? (i := 210) rfl) rfl
theorem zw_1192 : Cond.laysFinal "MissingLampsModel" "MissingLampsModel" "lostOf" "[I" ∈ ztb := zt_in5 (List.mem_of_getElem? (i := 212) rfl) rfl
theorem zw_1193 : Cond.laysFinal "MissingLampsModel" "MissingLampsModel" "ageOf" "[I" ∈ ztb := zt_in5 (List.mem_of_getElem? (i := 214) rfl) rfl
theorem zw_1194 : Cond.laysFinal "MissingLampsModel" "MissingLampsModel" "folkAt" "[I" ∈ ztb := zt_in5 (List.mem_of_getElem? (i := 216) rfl) rfl
theorem zw_1195 : Cond.laysFinal "MissingLampsModel" "MissingLampsModel" "keptMany" "[I" ∈ ztb := zt_in5 (List.mem_of_getElem? (i := 218) rfl) rfl
theorem zw_1196 : Cond.laysFinal "MissingLampsModel" "MissingLampsModel" "keptRow" "[I" ∈ ztb := zt_in5 (List.mem_of_getElem? (i := 220) rfl) rfl
theorem zw_1197 : Cond.lays "MissingLampsModel" "MissingLampsModel" "undoFirst" "I" ∈ ztb := zt_in5 (List.mem_of_getElem? (i := 222) rfl) rfl
theorem zw_1198 : Cond.lays "MissingLampsModel" "MissingLampsModel" "undos" "I" ∈ ztb := zt_in5 (List.mem_of_getElem? (i := 224) rfl) rfl
theorem zw_1199 : Cond.lays "MissingLampsModel" "MissingLampsModel" "seeds" "J" ∈ ztb := zt_in5 (List.mem_of_getElem? (i := 226) rfl) rfl
theorem zw_1200 : Cond.laysFinal "MissingLampsModel" "MissingLampsModel" "hueOf" "[I" ∈ ztb := zt_in5 (List.mem_of_getElem? (i := 228) rfl) rfl
theorem zw_1201 : Cond.laysFinal "MissingLampsModel" "MissingLampsModel" "stack" "[J" ∈ ztb := zt_in5 (List.mem_of_getElem? (i := 230) rfl) rfl
theorem zw_1202 : Cond.laysFinal "MissingLampsModel" "MissingLampsModel" "asked" "[I" ∈ ztb := zt_in5 (List.mem_of_getElem? (i := 232) rfl) rfl
theorem zw_1203 : Cond.laysFinal "MissingLampsModel" "MissingLampsModel" "litBy" "[I" ∈ ztb := zt_in5 (List.mem_of_getElem? (i := 234) rfl) rfl
theorem zw_1204 : Cond.laysFinal "MissingLampsModel" "MissingLampsModel" "road" "[I" ∈ ztb := zt_in5 (List.mem_of_getElem? (i := 236) rfl) rfl
theorem zw_1205 : Cond.laysFinal "MissingLampsModel" "MissingLampsModel" "queue" "[I" ∈ ztb := zt_in5 (List.mem_of_getElem? (i := 238) rfl) rfl
theorem zw_1206 : Cond.laysFinal "MissingLampsModel" "MissingLampsModel" "lampsOn" "[I" ∈ ztb := zt_in6 (List.mem_of_getElem? (i := 0) rfl) rfl
theorem zw_1207 : Cond.laysFinal "MissingLampsModel" "MissingLampsModel" "stepsTo" "[I" ∈ ztb := zt_in6 (List.mem_of_getElem? (i := 2) rfl) rfl
theorem zw_1208 : Cond.laysFinal "MissingLampsModel" "MissingLampsModel" "leastFrom" "[I" ∈ ztb := zt_in6 (List.mem_of_getElem? (i := 4) rfl) rfl
theorem zw_1209 : Cond.lays "MissingLampsModel" "MissingLampsModel" "metMany" "I" ∈ ztb := zt_in6 (List.mem_of_getElem? (i := 6) rfl) rfl
theorem zw_1210 : Cond.laysFinal "MissingLampsModel" "MissingLampsModel" "metNights" "[I" ∈ ztb := zt_in6 (List.mem_of_getElem? (i := 8) rfl) rfl
theorem zw_1211 : Cond.laysFinal "MissingLampsModel" "MissingLampsModel" "metFolk" "[I" ∈ ztb := zt_in6 (List.mem_of_getElem? (i := 10) rfl) rfl
theorem zw_1212 : Cond.laysFinal "MissingLampsModel" "MissingLampsModel" "metCell" "[I" ∈ ztb := zt_in6 (List.mem_of_getElem? (i := 12) rfl) rfl
theorem zw_1213 : Cond.laysFinal "MissingLampsModel" "MissingLampsModel" "cellBy" "[I" ∈ ztb := zt_in6 (List.mem_of_getElem? (i := 14) rfl) rfl
theorem zw_1214 : Cond.laysFinal "MissingLampsModel" "MissingLampsModel" "out" "[I" ∈ ztb := zt_in6 (List.mem_of_getElem? (i := 16) rfl) rfl
theorem zw_1215 : Cond.lays "MissingLampsModel" "MissingLampsModel" "outs" "I" ∈ ztb := zt_in6 (List.mem_of_getElem? (i := 18) rfl) rfl
theorem zw_1216 : Cond.code ({ cls := "MissingLamps$Harbour", name := "<init>", desc := "(LMissingLamps$Quay;)V" } : MethodName) prog_2_method_1_code (2 : Nat) (Option.none : Option FieldType) ∈ ztb := zt_in1 (List.mem_of_getElem? (i := 157) rfl) rfl
theorem zw_1217 : Cond.code ({ cls := "MissingLamps$Harbour", name := "moveTo", desc := "(LMissingLamps$Quay;)V" } : MethodName) prog_2_method_2_code (2 : Nat) (Option.none : Option FieldType) ∈ ztb := zt_in3 (List.mem_of_getElem? (i := 76) rfl) rfl
theorem zw_1218 : Cond.code ({ cls := "MissingLamps$Harbour", name := "pass", desc := "(LMissingLamps$State;II)V" } : MethodName) prog_2_method_3_code (8 : Nat) (Option.none : Option FieldType) ∈ ztb := zt_in4 (List.mem_of_getElem? (i := 10) rfl) rfl
theorem zw_1219 : Cond.code ({ cls := "MissingLamps$Harbour", name := "lit", desc := "(LMissingLamps$State;I)J" } : MethodName) prog_2_method_4_code (6 : Nat) (Option.some FieldType.long) ∈ ztb := zt_in3 (List.mem_of_getElem? (i := 115) rfl) rfl
theorem zw_1220 : Cond.code ({ cls := "MissingLamps$Harbour", name := "glow", desc := "(LMissingLamps$State;I)I" } : MethodName) prog_2_method_5_code (3 : Nat) (Option.some FieldType.int) ∈ ztb := zt_in3 (List.mem_of_getElem? (i := 123) rfl) rfl
theorem zw_1221 : Cond.code ({ cls := "MissingLamps$Harbour", name := "light", desc := "(II)J" } : MethodName) prog_2_method_6_code (6 : Nat) (Option.some FieldType.long) ∈ ztb := zt_in3 (List.mem_of_getElem? (i := 167) rfl) rfl
theorem zw_1222 : Cond.code ({ cls := "MissingLamps$Harbour", name := "nextTo", desc := "(J)J" } : MethodName) prog_2_method_7_code (2 : Nat) (Option.some FieldType.long) ∈ ztb := zt_in3 (List.mem_of_getElem? (i := 171) rfl) rfl
theorem zw_1223 : Cond.code ({ cls := "MissingLamps$Harbour", name := "countLanterns", desc := "(LMissingLamps$State;J)I" } : MethodName) prog_2_method_8_code (6 : Nat) (Option.some FieldType.int) ∈ ztb := zt_in3 (List.mem_of_getElem? (i := 209) rfl) rfl
theorem zw_1224 : Cond.code ({ cls := "MissingLamps$Harbour", name := "road", desc := "(IIJ)I" } : MethodName) prog_2_method_9_code (12 : Nat) (Option.some FieldType.int) ∈ ztb := zt_in3 (List.mem_of_getElem? (i := 229) rfl) rfl
theorem zw_1225 : Cond.code ({ cls := "MissingLamps$Harbour", name := "walked", desc := "(IIJ)I" } : MethodName) prog_2_method_10_code (8 : Nat) (Option.some FieldType.int) ∈ ztb := zt_in4 (List.mem_of_getElem? (i := 15) rfl) rfl
theorem zw_1226 : Cond.code ({ cls := "MissingLamps$Harbour", name := "stepped", desc := "(IJ)I" } : MethodName) prog_2_method_11_code (5 : Nat) (Option.some FieldType.int) ∈ ztb := zt_in4 (List.mem_of_getElem? (i := 19) rfl) rfl
theorem zw_1227 : Cond.code ({ cls := "MissingLamps$Harbour", name := "settle", desc := "(LMissingLamps$State;)V" } : MethodName) prog_2_method_12_code (4 : Nat) (Option.none : Option FieldType) ∈ ztb := zt_in4 (List.mem_of_getElem? (i := 23) rfl) rfl
theorem zw_1228 : Cond.code ({ cls := "MissingLamps$Harbour", name := "isFound", desc := "(LMissingLamps$State;I)Z" } : MethodName) prog_2_method_13_code (3 : Nat) (Option.some FieldType.boolean) ∈ ztb := zt_in4 (List.mem_of_getElem? (i := 31) rfl) rfl
theorem zw_1229 : Cond.code ({ cls := "MissingLamps$Harbour", name := "isLost", desc := "(LMissingLamps$State;I)Z" } : MethodName) prog_2_method_14_code (3 : Nat) (Option.some FieldType.boolean) ∈ ztb := zt_in4 (List.mem_of_getElem? (i := 27) rfl) rfl
theorem zw_1230 : Cond.code ({ cls := "MissingLamps$Harbour", name := "setOut", desc := "(LMissingLamps$State;I)V" } : MethodName) prog_2_method_15_code (3 : Nat) (Option.none : Option FieldType) ∈ ztb := zt_in3 (List.mem_of_getElem? (i := 132) rfl) rfl
theorem zw_1231 : Cond.code ({ cls := "MissingLamps$Harbour", name := "hueOf", desc := "(LMissingLamps$State;I)I" } : MethodName) prog_2_method_16_code (3 : Nat) (Option.some FieldType.int) ∈ ztb := zt_in3 (List.mem_of_getElem? (i := 128) rfl) rfl
theorem zw_1232 : Cond.code ({ cls := "MissingLamps$Harbour", name := "near", desc := "(LMissingLamps$State;I)I" } : MethodName) prog_2_method_17_code (5 : Nat) (Option.some FieldType.int) ∈ ztb := zt_in4 (List.mem_of_getElem? (i := 35) rfl) rfl
theorem zw_1233 : Cond.code ({ cls := "MissingLamps$Harbour", name := "isAtHome", desc := "(LMissingLamps$State;I)Z" } : MethodName) prog_2_method_18_code (3 : Nat) (Option.some FieldType.boolean) ∈ ztb := zt_in3 (List.mem_of_getElem? (i := 180) rfl) rfl
theorem zw_1234 : Cond.code ({ cls := "MissingLamps$Harbour", name := "countAtHome", desc := "(LMissingLamps$State;)I" } : MethodName) prog_2_method_19_code (4 : Nat) (Option.some FieldType.int) ∈ ztb := zt_in3 (List.mem_of_getElem? (i := 176) rfl) rfl
theorem zw_1235 : Cond.code ({ cls := "MissingLamps$KeptRows", name := "<init>", desc := "()V" } : MethodName) prog_3_method_1_code (1 : Nat) (Option.none : Option FieldType) ∈ ztb := zt_in1 (List.mem_of_getElem? (i := 108) rfl) rfl
theorem zw_1236 : Cond.code ({ cls := "MissingLamps$KeptRows", name := "add", desc := "(III)V" } : MethodName) prog_3_method_2_code (4 : Nat) (Option.none : Option FieldType) ∈ ztb := zt_in4 (List.mem_of_getElem? (i := 193) rfl) rfl
theorem zw_1237 : Cond.code ({ cls := "MissingLamps$KeptRows", name := "copyFrom", desc := "(LMissingLamps$KeptRows;)V" } : MethodName) prog_3_method_3_code (2 : Nat) (Option.none : Option FieldType) ∈ ztb := zt_in4 (List.mem_of_getElem? (i := 182) rfl) rfl
theorem zw_1238 : Cond.code ({ cls := "MissingLamps$Past", name := "<init>", desc := "()V" } : MethodName) prog_4_method_1_code (2 : Nat) (Option.none : Option FieldType) ∈ ztb := zt_in1 (List.mem_of_getElem? (i := 131) rfl) rfl
theorem zw_1239 : Cond.code ({ cls := "MissingLamps$Past", name := "push", desc := "(LMissingLamps$State;LMissingLamps$KeptRows;)V" } : MethodName) prog_4_method_2_code (3 : Nat) (Option.none : Option FieldType) ∈ ztb := zt_in4 (List.mem_of_getElem? (i := 177) rfl) rfl
theorem zw_1240 : Cond.code ({ cls := "MissingLamps$Past", name := "pop", desc := "(LMissingLamps$State;LMissingLamps$KeptRows;)V" } : MethodName) prog_4_method_3_code (3 : Nat) (Option.none : Option FieldType) ∈ ztb := zt_in4 (List.mem_of_getElem? (i := 239) rfl) rfl
theorem zw_1241 : Cond.code ({ cls := "MissingLamps$Planner", name := "<init>", desc := "(LMissingLamps$Harbour;)V" } : MethodName) prog_5_method_1_code (3 : Nat) (Option.none : Option FieldType) ∈ ztb := zt_in1 (List.mem_of_getElem? (i := 217) rfl) rfl
theorem zw_1242 : Cond.code ({ cls := "MissingLamps$Planner", name := "behind", desc := "(LMissingLamps$State;I)LMissingLamps$State;" } : MethodName) prog_5_method_2_code (4 : Nat) (Option.some (FieldType.object "MissingLamps$State")) ∈ ztb := zt_in4 (List.mem_of_getElem? (i := 1) rfl) rfl
theorem zw_1243 : Cond.code ({ cls := "MissingLamps$Planner", name := "nightsTillHome", desc := "(LMissingLamps$State;I)I" } : MethodName) prog_5_method_3_code (6 : Nat) (Option.some FieldType.int) ∈ ztb := zt_in4 (List.mem_of_getElem? (i := 43) rfl) rfl
theorem zw_1244 : Cond.code ({ cls := "MissingLamps$Planner", name := "leastLosses", desc := "(LMissingLamps$State;II)I" } : MethodName) prog_5_method_4_code (9 : Nat) (Option.some FieldType.int) ∈ ztb := zt_in4 (List.mem_of_getElem? (i := 57) rfl) rfl
theorem zw_1245 : Cond.code ({ cls := "MissingLamps$Planner", name := "turnAll", desc := "(LMissingLamps$State;I)V" } : MethodName) prog_5_method_5_code (3 : Nat) (Option.none : Option FieldType) ∈ ztb := zt_in4 (List.mem_of_getElem? (i := 61) rfl) rfl
theorem zw_1246 : Cond.code ({ cls := "MissingLamps$Planner", name := "worstFound", desc := "(LMissingLamps$State;IZ)I" } : MethodName) prog_5_method_6_code (9 : Nat) (Option.some FieldType.int) ∈ ztb := zt_in4 (List.mem_of_getElem? (i := 73) rfl) rfl
theorem zw_1247 : Cond.code ({ cls := "MissingLamps$Planner", name := "leastCover", desc := "(LMissingLamps$State;)I" } : MethodName) prog_5_method_7_code (7 : Nat) (Option.some FieldType.int) ∈ ztb := zt_in4 (List.mem_of_getElem? (i := 83) rfl) rfl
theorem zw_1248 : Cond.code ({ cls := "MissingLamps$Planner", name := "lightOf", desc := "(I)J" } : MethodName) prog_5_method_8_code (5 : Nat) (Option.some FieldType.long) ∈ ztb := zt_in4 (List.mem_of_getElem? (i := 89) rfl) rfl
theorem zw_1249 : Cond.code ({ cls := "MissingLamps$Planner", name := "arrange", desc := "(LMissingLamps$State;)V" } : MethodName) prog_5_method_9_code (5 : Nat) (Option.none : Option FieldType) ∈ ztb := zt_in4 (List.mem_of_getElem? (i := 97) rfl) rfl
theorem zw_1250 : Cond.code ({ cls := "MissingLamps$Planner", name := "measure", desc := "(LMissingLamps$State;)V" } : MethodName) prog_5_method_10_code (6 : Nat) (Option.none : Option FieldType) ∈ ztb := zt_in4 (List.mem_of_getElem? (i := 101) rfl) rfl
theorem zw_1251 : Cond.code ({ cls := "MissingLamps$Planner", name := "weigh", desc := "(I)V" } : MethodName) prog_5_method_11_code (6 : Nat) (Option.none : Option FieldType) ∈ ztb := zt_in4 (List.mem_of_getElem? (i := 107) rfl) rfl
theorem zw_1252 : Cond.code ({ cls := "MissingLamps$Planner", name := "worthWith", desc := "(III)I" } : MethodName) prog_5_method_12_code (6 : Nat) (Option.some FieldType.int) ∈ ztb := zt_in4 (List.mem_of_getElem? (i := 111) rfl) rfl
theorem zw_1253 : Cond.code ({ cls := "MissingLamps$Planner", name := "firstBest", desc := "(II)I" } : MethodName) prog_5_method_13_code (5 : Nat) (Option.some FieldType.int) ∈ ztb := zt_in4 (List.mem_of_getElem? (i := 116) rfl) rfl
theorem zw_1254 : Cond.code ({ cls := "MissingLamps$Planner", name := "rowsToHome", desc := "(LMissingLamps$State;I)I" } : MethodName) prog_5_method_14_code (8 : Nat) (Option.some FieldType.int) ∈ ztb := zt_in4 (List.mem_of_getElem? (i := 124) rfl) rfl
theorem zw_1255 : Cond.code ({ cls := "MissingLamps$Planner", name := "forgetMet", desc := "()V" } : MethodName) prog_5_method_15_code (1 : Nat) (Option.none : Option FieldType) ∈ ztb := zt_in3 (List.mem_of_getElem? (i := 91) rfl) rfl
theorem zw_1256 : Cond.code ({ cls := "MissingLamps$Planner", name := "takesMet", desc := "([II)Z" } : MethodName) prog_5_method_16_code (4 : Nat) (Option.some FieldType.boolean) ∈ ztb := zt_in4 (List.mem_of_getElem? (i := 134) rfl) rfl
theorem zw_1257 : Cond.code ({ cls := "MissingLamps$Planner", name := "huesLeft", desc := "(LMissingLamps$State;I)I" } : MethodName) prog_5_method_17_code (9 : Nat) (Option.some FieldType.int) ∈ ztb := zt_in4 (List.mem_of_getElem? (i := 144) rfl) rfl
theorem zw_1258 : Cond.code ({ cls := "MissingLamps$Planner", name := "lastMetNight", desc := "()I" } : MethodName) prog_5_method_18_code (3 : Nat) (Option.some FieldType.int) ∈ ztb := zt_in4 (List.mem_of_getElem? (i := 148) rfl) rfl
theorem zw_1259 : Cond.code ({ cls := "MissingLamps$Planner", name := "fitsMet", desc := "(LMissingLamps$State;I)Z" } : MethodName) prog_5_method_19_code (5 : Nat) (Option.some FieldType.boolean) ∈ ztb := zt_in4 (List.mem_of_getElem? (i := 152) rfl) rfl
theorem zw_1260 : Cond.code ({ cls := "MissingLamps$Planner", name := "findTelling", desc := "(LMissingLamps$State;II)V" } : MethodName) prog_5_method_20_code (9 : Nat) (Option.none : Option FieldType) ∈ ztb := zt_in4 (List.mem_of_getElem? (i := 161) rfl) rfl
theorem zw_1261 : Cond.code ({ cls := "MissingLamps$Planner", name := "supposeAll", desc := "(LMissingLamps$State;II)I" } : MethodName) prog_5_method_21_code (6 : Nat) (Option.some FieldType.int) ∈ ztb := zt_in4 (List.mem_of_getElem? (i := 165) rfl) rfl
theorem zw_1262 : Cond.code ({ cls := "MissingLamps$Planner", name := "mostAlike", desc := "(II)I" } : MethodName) prog_5_method_22_code (7 : Nat) (Option.some FieldType.int) ∈ ztb := zt_in4 (List.mem_of_getElem? (i := 169) rfl) rfl
theorem zw_1263 : Cond.code ({ cls := "MissingLamps$Quay", name := "<init>", desc := "()V" } : MethodName) prog_6_method_1_code (1 : Nat) (Option.none : Option FieldType) ∈ ztb := zt_in0 (List.mem_of_getElem? (i := 34) rfl) rfl
theorem zw_1264 : Cond.code ({ cls := "MissingLamps$Quay", name := "clear", desc := "()V" } : MethodName) prog_6_method_2_code (1 : Nat) (Option.none : Option FieldType) ∈ ztb := zt_in2 (List.mem_of_getElem? (i := 112) rfl) rfl
theorem zw_1265 : Cond.code ({ cls := "MissingLamps$Quay", name := "setFirst", desc := "(LMissingLamps$State;)V" } : MethodName) prog_6_method_3_code (3 : Nat) (Option.none : Option FieldType) ∈ ztb := zt_in3 (List.mem_of_getElem? (i := 80) rfl) rfl
theorem zw_1266 : Cond.code ({ cls := "MissingLamps$Quay", name := "hasCell", desc := "(II)Z" } : MethodName) prog_6_method_4_code (3 : Nat) (Option.some FieldType.boolean) ∈ ztb := zt_in3 (List.mem_of_getElem? (i := 203) rfl) rfl
theorem zw_1267 : Cond.code ({ cls := "MissingLamps$Quay", name := "hasFreeCell", desc := "(II)Z" } : MethodName) prog_6_method_5_code (3 : Nat) (Option.some FieldType.boolean) ∈ ztb := zt_in4 (List.mem_of_getElem? (i := 229) rfl) rfl
theorem zw_1268 : Cond.code ({ cls := "MissingLamps$Quay", name := "setSize", desc := "(II)V" } : MethodName) prog_6_method_6_code (4 : Nat) (Option.none : Option FieldType) ∈ ztb := zt_in2 (List.mem_of_getElem? (i := 159) rfl) rfl
theorem zw_1269 : Cond.code ({ cls := "MissingLamps$Quay", name := "taken", desc := "()J" } : MethodName) prog_6_method_7_code (4 : Nat) (Option.some FieldType.long) ∈ ztb := zt_in2 (List.mem_of_getElem? (i := 188) rfl) rfl
theorem zw_1270 : Cond.code ({ cls := "MissingLamps$Quay", name := "thingNamed", desc := "(I)I" } : MethodName) prog_6_method_8_code (3 : Nat) (Option.some FieldType.int) ∈ ztb := zt_in2 (List.mem_of_getElem? (i := 220) rfl) rfl
theorem zw_1271 : Cond.code ({ cls := "MissingLamps$Quay", name := "isNamed", desc := "(I)Z" } : MethodName) prog_6_method_9_code (3 : Nat) (Option.some FieldType.boolean) ∈ ztb := zt_in2 (List.mem_of_getElem? (i := 216) rfl) rfl
theorem zw_1272 : Cond.code ({ cls := "MissingLamps$Reader", name := "<init>", desc := "()V" } : MethodName) prog_7_method_1_code (6 : Nat) (Option.none : Option FieldType) ∈ ztb := zt_in0 (List.mem_of_getElem? (i := 171) rfl) rfl
theorem zw_1273 : Cond.code ({ cls := "MissingLamps$Reader", name := "begin", desc := "([II)V" } : MethodName) prog_7_method_2_code (3 : Nat) (Option.none : Option FieldType) ∈ ztb := zt_in2 (List.mem_of_getElem? (i := 120) rfl) rfl
theorem zw_1274 : Cond.code ({ cls := "MissingLamps$Reader", name := "advance", desc := "()V" } : MethodName) prog_7_method_3_code (3 : Nat) (Option.none : Option FieldType) ∈ ztb := zt_in2 (List.mem_of_getElem? (i := 127) rfl) rfl
theorem zw_1275 : Cond.code ({ cls := "MissingLamps$Reader", name := "readWord", desc := "(Z)V" } : MethodName) prog_7_method_4_code (4 : Nat) (Option.none : Option FieldType) ∈ ztb := zt_in2 (List.mem_of_getElem? (i := 131) rfl) rfl
theorem zw_1276 : Cond.code ({ cls := "MissingLamps$Reader", name := "readNumber", desc := "(Z)V" } : MethodName) prog_7_method_5_code (3 : Nat) (Option.none : Option FieldType) ∈ ztb := zt_in2 (List.mem_of_getElem? (i := 135) rfl) rfl
theorem zw_1277 : Cond.code ({ cls := "MissingLamps$Reader", name := "isOwn", desc := "(I)Z" } : MethodName) prog_7_method_6_code (2 : Nat) (Option.some FieldType.boolean) ∈ ztb := zt_in2 (List.mem_of_getElem? (i := 147) rfl) rfl
theorem zw_1278 : Cond.code ({ cls := "MissingLamps$Reader", name := "isSign", desc := "(I)Z" } : MethodName) prog_7_method_7_code (2 : Nat) (Option.some FieldType.boolean) ∈ ztb := zt_in2 (List.mem_of_getElem? (i := 167) rfl) rfl
theorem zw_1279 : Cond.code ({ cls := "MissingLamps$Reader", name := "faults", desc := "(II)Z" } : MethodName) prog_7_method_8_code (3 : Nat) (Option.some FieldType.boolean) ∈ ztb := zt_in2 (List.mem_of_getElem? (i := 151) rfl) rfl
theorem zw_1280 : Cond.code ({ cls := "MissingLamps$Reader", name := "takesOwn", desc := "(I)Z" } : MethodName) prog_7_method_9_code (2 : Nat) (Option.some FieldType.boolean) ∈ ztb := zt_in2 (List.mem_of_getElem? (i := 143) rfl) rfl
theorem zw_1281 : Cond.code ({ cls := "MissingLamps$Reader", name := "takesSign", desc := "(I)Z" } : MethodName) prog_7_method_10_code (2 : Nat) (Option.some FieldType.boolean) ∈ ztb := zt_in2 (List.mem_of_getElem? (i := 163) rfl) rfl
theorem zw_1282 : Cond.code ({ cls := "MissingLamps$Reader", name := "takesName", desc := "()Z" } : MethodName) prog_7_method_11_code (1 : Nat) (Option.some FieldType.boolean) ∈ ztb := zt_in2 (List.mem_of_getElem? (i := 212) rfl) rfl
theorem zw_1283 : Cond.code ({ cls := "MissingLamps$Reader", name := "takesNumber", desc := "(II)Z" } : MethodName) prog_7_method_12_code (3 : Nat) (Option.some FieldType.boolean) ∈ ztb := zt_in2 (List.mem_of_getElem? (i := 155) rfl) rfl
theorem zw_1284 : Cond.code ({ cls := "MissingLamps$Reckoner", name := "<init>", desc := "()V" } : MethodName) prog_8_method_1_code (1 : Nat) (Option.none : Option FieldType) ∈ ztb := zt_in1 (List.mem_of_getElem? (i := 163) rfl) rfl
theorem zw_1285 : Cond.code ({ cls := "MissingLamps$Reckoner", name := "value", desc := "(LMissingLamps$Rules;I)I" } : MethodName) prog_8_method_2_code (7 : Nat) (Option.some FieldType.int) ∈ ztb := zt_in3 (List.mem_of_getElem? (i := 137) rfl) rfl
theorem zw_1286 : Cond.code ({ cls := "MissingLamps$Reckoner", name := "named", desc := "(I)I" } : MethodName) prog_8_method_3_code (2 : Nat) (Option.some FieldType.int) ∈ ztb := zt_in3 (List.mem_of_getElem? (i := 161) rfl) rfl
theorem zw_1287 : Cond.code ({ cls := "MissingLamps$Reckoner", name := "joined", desc := "(III)I" } : MethodName) prog_8_method_4_code (3 : Nat) (Option.some FieldType.int) ∈ ztb := zt_in3 (List.mem_of_getElem? (i := 140) rfl) rfl
theorem zw_1288 : Cond.code ({ cls := "MissingLamps$Reckoner", name := "bounded", desc := "(J)I" } : MethodName) prog_8_method_5_code (2 : Nat) (Option.some FieldType.int) ∈ ztb := zt_in3 (List.mem_of_getElem? (i := 143) rfl) rfl
theorem zw_1289 : Cond.code ({ cls := "MissingLamps$Rules", name := "<init>", desc := "()V" } : MethodName) prog_9_method_1_code (1 : Nat) (Option.none : Option FieldType) ∈ ztb := zt_in0 (List.mem_of_getElem? (i := 40) rfl) rfl
theorem zw_1290 : Cond.code ({ cls := "MissingLamps$Rules", name := "clear", desc := "()V" } : MethodName) prog_9_method_2_code (2 : Nat) (Option.none : Option FieldType) ∈ ztb := zt_in2 (List.mem_of_getElem? (i := 116) rfl) rfl
theorem zw_1291 : Cond.code ({ cls := "MissingLamps$Rules", name := "isTold", desc := "(I)Z" } : MethodName) prog_9_method_3_code (2 : Nat) (Option.some FieldType.boolean) ∈ ztb := zt_in2 (List.mem_of_getElem? (i := 237) rfl) rfl
theorem zw_1292 : Cond.code ({ cls := "MissingLamps$Rules", name := "begin", desc := "(I)V" } : MethodName) prog_9_method_4_code (2 : Nat) (Option.none : Option FieldType) ∈ ztb := zt_in3 (List.mem_of_getElem? (i := 5) rfl) rfl
theorem zw_1293 : Cond.code ({ cls := "MissingLamps$Rules", name := "close", desc := "(I)V" } : MethodName) prog_9_method_5_code (2 : Nat) (Option.none : Option FieldType) ∈ ztb := zt_in3 (List.mem_of_getElem? (i := 64) rfl) rfl
theorem zw_1294 : Cond.code ({ cls := "MissingLamps$Rules", name := "put", desc := "(I)Z" } : MethodName) prog_9_method_6_code (2 : Nat) (Option.some FieldType.boolean) ∈ ztb := zt_in3 (List.mem_of_getElem? (i := 21) rfl) rfl
theorem zw_1295 : Cond.code ({ cls := "MissingLamps$State", name := "<init>", desc := "()V" } : MethodName) prog_10_method_1_code (1 : Nat) (Option.none : Option FieldType) ∈ ztb := zt_in1 (List.mem_of_getElem? (i := 64) rfl) rfl
theorem zw_1296 : Cond.code ({ cls := "MissingLamps$State", name := "copyFrom", desc := "(LMissingLamps$State;)V" } : MethodName) prog_10_method_2_code (2 : Nat) (Option.none : Option FieldType) ∈ ztb := zt_in4 (List.mem_of_getElem? (i := 5) rfl) rfl
theorem zw_1297 : Cond.code ({ cls := "MissingLamps$State", name := "isMissing", desc := "(I)Z" } : MethodName) prog_10_method_3_code (2 : Nat) (Option.some FieldType.boolean) ∈ ztb := zt_in3 (List.mem_of_getElem? (i := 119) rfl) rfl
theorem zw_1298 : Cond.code ({ cls := "MissingLamps$State", name := "turn", desc := "(I)V" } : MethodName) prog_10_method_4_code (2 : Nat) (Option.none : Option FieldType) ∈ ztb := zt_in4 (List.mem_of_getElem? (i := 65) rfl) rfl
theorem zw_1299 : Cond.code ({ cls := "MissingLamps$StatementReader", name := "<init>", desc := "(LMissingLamps$Quay;)V" } : MethodName) prog_11_method_1_code (2 : Nat) (Option.none : Option FieldType) ∈ ztb := zt_in0 (List.mem_of_getElem? (i := 165) rfl) rfl
theorem zw_1300 : Cond.code ({ cls := "MissingLamps$StatementReader", name := "faultKind", desc := "()I" } : MethodName) prog_11_method_2_code (1 : Nat) (Option.some FieldType.int) ∈ ztb := zt_in3 (List.mem_of_getElem? (i := 68) rfl) rfl
theorem zw_1301 : Cond.code ({ cls := "MissingLamps$StatementReader", name := "faultPlace", desc := "()I" } : MethodName) prog_11_method_3_code (1 : Nat) (Option.some FieldType.int) ∈ ztb := zt_in3 (List.mem_of_getElem? (i := 72) rfl) rfl
theorem zw_1302 : Cond.code ({ cls := "MissingLamps$StatementReader", name := "reads", desc := "([IILMissingLamps$Quay;)Z" } : MethodName) prog_11_method_4_code (6 : Nat) (Option.some FieldType.boolean) ∈ ztb := zt_in2 (List.mem_of_getElem? (i := 108) rfl) rfl
theorem zw_1303 : Cond.code ({ cls := "MissingLamps$StatementReader", name := "takesSize", desc := "()Z" } : MethodName) prog_11_method_5_code (2 : Nat) (Option.some FieldType.boolean) ∈ ztb := zt_in2 (List.mem_of_getElem? (i := 139) rfl) rfl
theorem zw_1304 : Cond.code ({ cls := "MissingLamps$StatementReader", name := "takesStatement", desc := "()Z" } : MethodName) prog_11_method_6_code (2 : Nat) (Option.some FieldType.boolean) ∈ ztb := zt_in2 (List.mem_of_getElem? (i := 171) rfl) rfl
theorem zw_1305 : Cond.code ({ cls := "MissingLamps$StatementReader", name := "takesPace", desc := "()Z" } : MethodName) prog_11_method_7_code (1 : Nat) (Option.some FieldType.boolean) ∈ ztb := zt_in2 (List.mem_of_getElem? (i := 175) rfl) rfl
theorem zw_1306 : Cond.code ({ cls := "MissingLamps$StatementReader", name := "takesGale", desc := "()Z" } : MethodName) prog_11_method_8_code (1 : Nat) (Option.some FieldType.boolean) ∈ ztb := zt_in2 (List.mem_of_getElem? (i := 180) rfl) rfl
theorem zw_1307 : Cond.code ({ cls := "MissingLamps$StatementReader", name := "takesWall", desc := "()Z" } : MethodName) prog_11_method_9_code (1 : Nat) (Option.some FieldType.boolean) ∈ ztb := zt_in2 (List.mem_of_getElem? (i := 184) rfl) rfl
theorem zw_1308 : Cond.code ({ cls := "MissingLamps$StatementReader", name := "takesLack", desc := "()Z" } : MethodName) prog_11_method_10_code (2 : Nat) (Option.some FieldType.boolean) ∈ ztb := zt_in2 (List.mem_of_getElem? (i := 204) rfl) rfl
theorem zw_1309 : Cond.code ({ cls := "MissingLamps$StatementReader", name := "takesHas", desc := "()Z" } : MethodName) prog_11_method_11_code (2 : Nat) (Option.some FieldType.boolean) ∈ ztb := zt_in2 (List.mem_of_getElem? (i := 224) rfl) rfl
theorem zw_1310 : Cond.code ({ cls := "MissingLamps$StatementReader", name := "takesFolk", desc := "()Z" } : MethodName) prog_11_method_12_code (2 : Nat) (Option.some FieldType.boolean) ∈ ztb := zt_in2 (List.mem_of_getElem? (i := 229) rfl) rfl
theorem zw_1311 : Cond.code ({ cls := "MissingLamps$StatementReader", name := "takesRule", desc := "(I)Z" } : MethodName) prog_11_method_13_code (3 : Nat) (Option.some FieldType.boolean) ∈ ztb := zt_in2 (List.mem_of_getElem? (i := 233) rfl) rfl
theorem zw_1312 : Cond.code ({ cls := "MissingLamps$StatementReader", name := "takesNewName", desc := "()Z" } : MethodName) prog_11_method_14_code (1 : Nat) (Option.some FieldType.boolean) ∈ ztb := zt_in2 (List.mem_of_getElem? (i := 208) rfl) rfl
theorem zw_1313 : Cond.code ({ cls := "MissingLamps$StatementReader", name := "takesCell", desc := "(J)Z" } : MethodName) prog_11_method_15_code (4 : Nat) (Option.some FieldType.boolean) ∈ ztb := zt_in2 (List.mem_of_getElem? (i := 195) rfl) rfl
theorem zw_1314 : Cond.code ({ cls := "MissingLamps$SumReader", name := "<init>", desc := "(LMissingLamps$Reader;LMissingLamps$Rules;)V" } : MethodName) prog_12_method_1_code (3 : Nat) (Option.none : Option FieldType) ∈ ztb := zt_in1 (List.mem_of_getElem? (i := 35) rfl) rfl
theorem zw_1315 : Cond.code ({ cls := "MissingLamps$SumReader", name := "begin", desc := "(LMissingLamps$Rules;I)V" } : MethodName) prog_12_method_2_code (3 : Nat) (Option.none : Option FieldType) ∈ ztb := zt_in3 (List.mem_of_getElem? (i := 1) rfl) rfl
theorem zw_1316 : Cond.code ({ cls := "MissingLamps$SumReader", name := "takesTest", desc := "(I)Z" } : MethodName) prog_12_method_3_code (4 : Nat) (Option.some FieldType.boolean) ∈ ztb := zt_in3 (List.mem_of_getElem? (i := 42) rfl) rfl
theorem zw_1317 : Cond.code ({ cls := "MissingLamps$SumReader", name := "takesBoth", desc := "(I)Z" } : MethodName) prog_12_method_4_code (4 : Nat) (Option.some FieldType.boolean) ∈ ztb := zt_in3 (List.mem_of_getElem? (i := 46) rfl) rfl
theorem zw_1318 : Cond.code ({ cls := "MissingLamps$SumReader", name := "takesFact", desc := "(I)Z" } : MethodName) prog_12_method_5_code (2 : Nat) (Option.some FieldType.boolean) ∈ ztb := zt_in3 (List.mem_of_getElem? (i := 50) rfl) rfl
theorem zw_1319 : Cond.code ({ cls := "MissingLamps$SumReader", name := "takesComparison", desc := "(I)Z" } : MethodName) prog_12_method_6_code (3 : Nat) (Option.some FieldType.boolean) ∈ ztb := zt_in3 (List.mem_of_getElem? (i := 55) rfl) rfl
theorem zw_1320 : Cond.code ({ cls := "MissingLamps$SumReader", name := "takesSum", desc := "(I)Z" } : MethodName) prog_12_method_7_code (5 : Nat) (Option.some FieldType.boolean) ∈ ztb := zt_in3 (List.mem_of_getElem? (i := 9) rfl) rfl
theorem zw_1321 : Cond.code ({ cls := "MissingLamps$SumReader", name := "takesProduct", desc := "(I)Z" } : MethodName) prog_12_method_8_code (5 : Nat) (Option.some FieldType.boolean) ∈ ztb := zt_in3 (List.mem_of_getElem? (i := 13) rfl) rfl
theorem zw_1322 : Cond.code ({ cls := "MissingLamps$SumReader", name := "isFactorSign", desc := "()Z" } : MethodName) prog_12_method_9_code (1 : Nat) (Option.some FieldType.boolean) ∈ ztb := zt_in3 (List.mem_of_getElem? (i := 59) rfl) rfl
theorem zw_1323 : Cond.code ({ cls := "MissingLamps$SumReader", name := "takesPart", desc := "(I)Z" } : MethodName) prog_12_method_10_code (3 : Nat) (Option.some FieldType.boolean) ∈ ztb := zt_in3 (List.mem_of_getElem? (i := 17) rfl) rfl
theorem zw_1324 : Cond.code ({ cls := "MissingLamps$SumReader", name := "isValue", desc := "(I)Z" } : MethodName) prog_12_method_11_code (2 : Nat) (Option.some FieldType.boolean) ∈ ztb := zt_in3 (List.mem_of_getElem? (i := 34) rfl) rfl
theorem zw_1325 : Cond.code ({ cls := "MissingLamps$SumReader", name := "takesPair", desc := "(I)Z" } : MethodName) prog_12_method_12_code (2 : Nat) (Option.some FieldType.boolean) ∈ ztb := zt_in3 (List.mem_of_getElem? (i := 38) rfl) rfl
theorem zw_1326 : Cond.code ({ cls := "MissingLamps$SumReader", name := "opens", desc := "(IZ)Z" } : MethodName) prog_12_method_13_code (3 : Nat) (Option.some FieldType.boolean) ∈ ztb := zt_in3 (List.mem_of_getElem? (i := 27) rfl) rfl
theorem zw_1327 : Cond.code ({ cls := "MissingLamps", name := "<init>", desc := "()V" } : MethodName) prog_1_method_1_code (1 : Nat) (Option.none : Option FieldType) ∈ ztb := zt_in0 (List.mem_of_getElem? (i := 26) rfl) rfl
theorem zw_1328 : Cond.initialized "MissingLamps" ∈ ztb := zt_in0 (List.mem_of_getElem? (i := 1) rfl) rfl
theorem zw_1329 : Cond.code ({ cls := "MissingLamps", name := "feed", desc := "(IIIII)I" } : MethodName) prog_1_method_2_code (6 : Nat) (Option.some FieldType.int) ∈ ztb := zt_in2 (List.mem_of_getElem? (i := 80) rfl) rfl
theorem zw_1330 : Cond.code ({ cls := "MissingLamps", name := "end", desc := "(I)Z" } : MethodName) prog_1_method_3_code (2 : Nat) (Option.some FieldType.boolean) ∈ ztb := zt_in2 (List.mem_of_getElem? (i := 92) rfl) rfl
theorem zw_1331 : Cond.code ({ cls := "MissingLamps", name := "quay", desc := "()I" } : MethodName) prog_1_method_4_code (3 : Nat) (Option.some FieldType.int) ∈ ztb := zt_in2 (List.mem_of_getElem? (i := 100) rfl) rfl
theorem zw_1332 : Cond.code ({ cls := "MissingLamps", name := "fault", desc := "(I)I" } : MethodName) prog_1_method_5_code (2 : Nat) (Option.some FieldType.int) ∈ ztb := zt_in3 (List.mem_of_getElem? (i := 95) rfl) rfl
theorem zw_1333 : Cond.code ({ cls := "MissingLamps", name := "has", desc := "(I)I" } : MethodName) prog_1_method_6_code (2 : Nat) (Option.some FieldType.int) ∈ ztb := zt_in3 (List.mem_of_getElem? (i := 99) rfl) rfl
theorem zw_1334 : Cond.code ({ cls := "MissingLamps", name := "letter", desc := "(III)I" } : MethodName) prog_1_method_7_code (4 : Nat) (Option.some FieldType.int) ∈ ztb := zt_in3 (List.mem_of_getElem? (i := 184) rfl) rfl
theorem zw_1335 : Cond.code ({ cls := "MissingLamps", name := "cell", desc := "(III)I" } : MethodName) prog_1_method_8_code (6 : Nat) (Option.some FieldType.int) ∈ ztb := zt_in3 (List.mem_of_getElem? (i := 199) rfl) rfl
theorem zw_1336 : Cond.code ({ cls := "MissingLamps", name := "thing", desc := "(II)I" } : MethodName) prog_1_method_9_code (3 : Nat) (Option.some FieldType.int) ∈ ztb := zt_in3 (List.mem_of_getElem? (i := 213) rfl) rfl
theorem zw_1337 : Cond.code ({ cls := "MissingLamps", name := "folk", desc := "(II)I" } : MethodName) prog_1_method_10_code (3 : Nat) (Option.some FieldType.int) ∈ ztb := zt_in3 (List.mem_of_getElem? (i := 225) rfl) rfl
theorem zw_1338 : Cond.code ({ cls := "MissingLamps", name := "later", desc := "(III)I" } : MethodName) prog_1_method_11_code (5 : Nat) (Option.some FieldType.int) ∈ ztb := zt_in3 (List.mem_of_getElem? (i := 233) rfl) rfl
theorem zw_1339 : Cond.code ({ cls := "MissingLamps", name := "home", desc := "(I)I" } : MethodName) prog_1_method_12_code (2 : Nat) (Option.some FieldType.int) ∈ ztb := zt_in4 (List.mem_of_getElem? (i := 39) rfl) rfl
theorem zw_1340 : Cond.code ({ cls := "MissingLamps", name := "missing", desc := "(II)I" } : MethodName) prog_1_method_13_code (3 : Nat) (Option.some FieldType.int) ∈ ztb := zt_in4 (List.mem_of_getElem? (i := 49) rfl) rfl
theorem zw_1341 : Cond.code ({ cls := "MissingLamps", name := "losses", desc := "(II)I" } : MethodName) prog_1_method_14_code (3 : Nat) (Option.some FieldType.int) ∈ ztb := zt_in4 (List.mem_of_getElem? (i := 53) rfl) rfl
theorem zw_1342 : Cond.code ({ cls := "MissingLamps", name := "worst", desc := "(II)I" } : MethodName) prog_1_method_15_code (3 : Nat) (Option.some FieldType.int) ∈ ztb := zt_in4 (List.mem_of_getElem? (i := 69) rfl) rfl
theorem zw_1343 : Cond.code ({ cls := "MissingLamps", name := "cover", desc := "()I" } : MethodName) prog_1_method_16_code (1 : Nat) (Option.some FieldType.int) ∈ ztb := zt_in4 (List.mem_of_getElem? (i := 79) rfl) rfl
theorem zw_1344 : Cond.code ({ cls := "MissingLamps", name := "send", desc := "(I)I" } : MethodName) prog_1_method_17_code (2 : Nat) (Option.some FieldType.int) ∈ ztb := zt_in4 (List.mem_of_getElem? (i := 93) rfl) rfl
theorem zw_1345 : Cond.code ({ cls := "MissingLamps", name := "odds", desc := "(I)I" } : MethodName) prog_1_method_18_code (2 : Nat) (Option.some FieldType.int) ∈ ztb := zt_in4 (List.mem_of_getElem? (i := 120) rfl) rfl
theorem zw_1346 : Cond.code ({ cls := "MissingLamps", name := "meet", desc := "()I" } : MethodName) prog_1_method_19_code (2 : Nat) (Option.some FieldType.int) ∈ ztb := zt_in4 (List.mem_of_getElem? (i := 130) rfl) rfl
theorem zw_1347 : Cond.code ({ cls := "MissingLamps", name := "hues", desc := "(I)I" } : MethodName) prog_1_method_20_code (2 : Nat) (Option.some FieldType.int) ∈ ztb := zt_in4 (List.mem_of_getElem? (i := 140) rfl) rfl
theorem zw_1348 : Cond.code ({ cls := "MissingLamps", name := "tells", desc := "(II)I" } : MethodName) prog_1_method_21_code (3 : Nat) (Option.some FieldType.int) ∈ ztb := zt_in4 (List.mem_of_getElem? (i := 157) rfl) rfl
theorem zw_1349 : Cond.code ({ cls := "MissingLamps", name := "nights", desc := "(I)I" } : MethodName) prog_1_method_22_code (4 : Nat) (Option.some FieldType.int) ∈ ztb := zt_in4 (List.mem_of_getElem? (i := 173) rfl) rfl
theorem zw_1350 : Cond.code ({ cls := "MissingLamps", name := "chance", desc := "(I)I" } : MethodName) prog_1_method_23_code (5 : Nat) (Option.some FieldType.int) ∈ ztb := zt_in4 (List.mem_of_getElem? (i := 197) rfl) rfl
theorem zw_1351 : Cond.code ({ cls := "MissingLamps", name := "lose", desc := "(I)Z" } : MethodName) prog_1_method_24_code (2 : Nat) (Option.some FieldType.boolean) ∈ ztb := zt_in4 (List.mem_of_getElem? (i := 212) rfl) rfl
theorem zw_1352 : Cond.code ({ cls := "MissingLamps", name := "find", desc := "(I)Z" } : MethodName) prog_1_method_25_code (2 : Nat) (Option.some FieldType.boolean) ∈ ztb := zt_in4 (List.mem_of_getElem? (i := 221) rfl) rfl
theorem zw_1353 : Cond.code ({ cls := "MissingLamps", name := "lead", desc := "(III)Z" } : MethodName) prog_1_method_26_code (4 : Nat) (Option.some FieldType.boolean) ∈ ztb := zt_in4 (List.mem_of_getElem? (i := 225) rfl) rfl
theorem zw_1354 : Cond.code ({ cls := "MissingLamps", name := "undo", desc := "()Z" } : MethodName) prog_1_method_27_code (1 : Nat) (Option.some FieldType.boolean) ∈ ztb := zt_in4 (List.mem_of_getElem? (i := 235) rfl) rfl
theorem zw_1355 : Cond.code ({ cls := "MissingLamps", name := "seed", desc := "(I)Z" } : MethodName) prog_1_method_28_code (2 : Nat) (Option.some FieldType.boolean) ∈ ztb := zt_in5 (List.mem_of_getElem? (i := 3) rfl) rfl
theorem zw_1356 : Cond.code ({ cls := "MissingLamps", name := "kept", desc := "(II)I" } : MethodName) prog_1_method_29_code (3 : Nat) (Option.some FieldType.int) ∈ ztb := zt_in5 (List.mem_of_getElem? (i := 7) rfl) rfl
theorem zw_1357 : Cond.code ({ cls := "MissingLamps", name := "image", desc := "()I" } : MethodName) prog_1_method_30_code (3 : Nat) (Option.some FieldType.int) ∈ ztb := zt_in5 (List.mem_of_getElem? (i := 11) rfl) rfl
theorem zw_1358 : Cond.code ({ cls := "MissingLamps", name := "octet", desc := "(I)I" } : MethodName) prog_1_method_31_code (2 : Nat) (Option.some FieldType.int) ∈ ztb := zt_in5 (List.mem_of_getElem? (i := 18) rfl) rfl
theorem zw_1359 : Cond.code ({ cls := "MissingLamps", name := "on", desc := "()Z" } : MethodName) prog_1_method_32_code (4 : Nat) (Option.some FieldType.boolean) ∈ ztb := zt_in5 (List.mem_of_getElem? (i := 22) rfl) rfl
theorem zw_1360 : Cond.code ({ cls := "MissingLamps", name := "status", desc := "(I)I" } : MethodName) prog_1_method_33_code (2 : Nat) (Option.some FieldType.int) ∈ ztb := zt_in5 (List.mem_of_getElem? (i := 34) rfl) rfl
theorem zw_1361 : Cond.code ({ cls := "MissingLamps", name := "refuse", desc := "(I)I" } : MethodName) prog_1_method_34_code (2 : Nat) (Option.some FieldType.int) ∈ ztb := zt_in2 (List.mem_of_getElem? (i := 84) rfl) rfl
theorem zw_1362 : Cond.code ({ cls := "MissingLamps", name := "refused", desc := "(I)Z" } : MethodName) prog_1_method_35_code (2 : Nat) (Option.some FieldType.boolean) ∈ ztb := zt_in2 (List.mem_of_getElem? (i := 96) rfl) rfl
theorem zw_1363 : Cond.code ({ cls := "MissingLamps", name := "putOnTape", desc := "(I)V" } : MethodName) prog_1_method_36_code (3 : Nat) (Option.none : Option FieldType) ∈ ztb := zt_in2 (List.mem_of_getElem? (i := 88) rfl) rfl
theorem zw_1364 : Cond.code ({ cls := "MissingLamps", name := "takeTape", desc := "()I" } : MethodName) prog_1_method_37_code (2 : Nat) (Option.some FieldType.int) ∈ ztb := zt_in2 (List.mem_of_getElem? (i := 104) rfl) rfl
theorem zw_1365 : Cond.code ({ cls := "MissingLamps", name := "forgetActs", desc := "()V" } : MethodName) prog_1_method_38_code (1 : Nat) (Option.none : Option FieldType) ∈ ztb := zt_in3 (List.mem_of_getElem? (i := 87) rfl) rfl
theorem zw_1366 : Cond.code ({ cls := "MissingLamps", name := "isThing", desc := "(I)Z" } : MethodName) prog_1_method_39_code (2 : Nat) (Option.some FieldType.boolean) ∈ ztb := zt_in3 (List.mem_of_getElem? (i := 188) rfl) rfl
theorem zw_1367 : Cond.code ({ cls := "MissingLamps", name := "isFolk", desc := "(I)Z" } : MethodName) prog_1_method_40_code (2 : Nat) (Option.some FieldType.boolean) ∈ ztb := zt_in3 (List.mem_of_getElem? (i := 195) rfl) rfl
theorem zw_1368 : Cond.code ({ cls := "MissingLamps", name := "comes", desc := "(II)Z" } : MethodName) prog_1_method_41_code (3 : Nat) (Option.some FieldType.boolean) ∈ ztb := zt_in3 (List.mem_of_getElem? (i := 237) rfl) rfl
theorem zw_1369 : Cond.code ({ cls := "MissingLamps", name := "turnByAct", desc := "(I)V" } : MethodName) prog_1_method_42_code (2 : Nat) (Option.none : Option FieldType) ∈ ztb := zt_in4 (List.mem_of_getElem? (i := 216) rfl) rfl
theorem zw_1370 : Cond.code ({ cls := "MissingLamps", name := "passAndKeep", desc := "(I)I" } : MethodName) prog_1_method_43_code (4 : Nat) (Option.some FieldType.int) ∈ ztb := zt_in4 (List.mem_of_getElem? (i := 188) rfl) rfl
theorem zw_1371 : Cond.code ({ cls := "MissingLamps", name := "drawDark", desc := "()I" } : MethodName) prog_1_method_44_code (2 : Nat) (Option.some FieldType.int) ∈ ztb := zt_in4 (List.mem_of_getElem? (i := 201) rfl) rfl
theorem zw_1372 : Cond.code ({ cls := "MissingLamps", name := "draw", desc := "(I)I" } : MethodName) prog_1_method_45_code (2 : Nat) (Option.some FieldType.int) ∈ ztb := zt_in4 (List.mem_of_getElem? (i := 205) rfl) rfl
theorem zw_1373 : Cond.code ({ cls := "MissingLamps", name := "nightOnTape", desc := "()I" } : MethodName) prog_1_method_46_code (1 : Nat) (Option.some FieldType.int) ∈ ztb := zt_in5 (List.mem_of_getElem? (i := 30) rfl) rfl
theorem zw_1374 : Cond.code ({ cls := "MissingLamps", name := "holdsImage", desc := "(I)Z" } : MethodName) prog_1_method_47_code (5 : Nat) (Option.some FieldType.boolean) ∈ ztb := zt_in5 (List.mem_of_getElem? (i := 26) rfl) rfl
theorem zw_1375 : Cond.code ({ cls := "MissingLamps", name := "checkOf", desc := "([II)I" } : MethodName) prog_1_method_48_code (4 : Nat) (Option.some FieldType.int) ∈ ztb := zt_in5 (List.mem_of_getElem? (i := 14) rfl) rfl
theorem zw_1376 : Cond.code ({ cls := "MissingLamps", name := "letterOf", desc := "(II)I" } : MethodName) prog_1_method_49_code (2 : Nat) (Option.some FieldType.int) ∈ ztb := zt_in3 (List.mem_of_getElem? (i := 191) rfl) rfl
theorem zw_1377 : Cond.code ({ cls := "MissingLamps", name := "placeOf", desc := "(II)I" } : MethodName) prog_1_method_50_code (2 : Nat) (Option.some FieldType.int) ∈ ztb := zt_in2 (List.mem_of_getElem? (i := 198) rfl) rfl
theorem zw_1378 : Cond.code ({ cls := "MissingLamps", name := "columnOf", desc := "(I)I" } : MethodName) prog_1_method_51_code (1 : Nat) (Option.some FieldType.int) ∈ ztb := zt_in3 (List.mem_of_getElem? (i := 216) rfl) rfl
theorem zw_1379 : Cond.code ({ cls := "MissingLamps", name := "rowOf", desc := "(I)I" } : MethodName) prog_1_method_52_code (1 : Nat) (Option.some FieldType.int) ∈ ztb := zt_in3 (List.mem_of_getElem? (i := 219) rfl) rfl
theorem zw_1380 : Cond.code ({ cls := "MissingLamps", name := "bitOf", desc := "(I)J" } : MethodName) prog_1_method_53_code (1 : Nat) (Option.some FieldType.long) ∈ ztb := zt_in2 (List.mem_of_getElem? (i := 191) rfl) rfl
theorem zw_1381 : Cond.code ({ cls := "MissingLampsModel", name := "<init>", desc := "()V" } : MethodName) prog_14_method_1_code (2 : Nat) (Option.none : Option FieldType) ∈ ztb := zt_in5 (List.mem_of_getElem? (i := 39) rfl) rfl
theorem zw_1382 : Cond.initialized "MissingLampsModel" ∈ ztb := zt_in0 (List.mem_of_getElem? (i := 17) rfl) rfl
theorem zw_1383 : Cond.code ({ cls := "MissingLampsModel", name := "is", desc := "(III)Z" } : MethodName) prog_14_method_2_code (3 : Nat) (Option.some FieldType.boolean) ∈ ztb := zt_in6 (List.mem_of_getElem? (i := 79) rfl) rfl
theorem zw_1384 : Cond.code ({ cls := "MissingLampsModel", name := "put", desc := "(I)V" } : MethodName) prog_14_method_3_code (3 : Nat) (Option.none : Option FieldType) ∈ ztb := zt_in6 (List.mem_of_getElem? (i := 33) rfl) rfl
theorem zw_1385 : Cond.code ({ cls := "MissingLampsModel", name := "feed", desc := "(IIIII)I" } : MethodName) prog_14_method_4_code (6 : Nat) (Option.some FieldType.int) ∈ ztb := zt_in6 (List.mem_of_getElem? (i := 25) rfl) rfl
theorem zw_1386 : Cond.code ({ cls := "MissingLampsModel", name := "end", desc := "(I)Z" } : MethodName) prog_14_method_5_code (2 : Nat) (Option.some FieldType.boolean) ∈ ztb := zt_in6 (List.mem_of_getElem? (i := 37) rfl) rfl
theorem zw_1387 : Cond.code ({ cls := "MissingLampsModel", name := "blame", desc := "(II)V" } : MethodName) prog_14_method_6_code (3 : Nat) (Option.none : Option FieldType) ∈ ztb := zt_in6 (List.mem_of_getElem? (i := 68) rfl) rfl
theorem zw_1388 : Cond.code ({ cls := "MissingLampsModel", name := "isLetter", desc := "(I)Z" } : MethodName) prog_14_method_7_code (1 : Nat) (Option.some FieldType.boolean) ∈ ztb := zt_in6 (List.mem_of_getElem? (i := 48) rfl) rfl
theorem zw_1389 : Cond.code ({ cls := "MissingLampsModel", name := "isDigit", desc := "(I)Z" } : MethodName) prog_14_method_8_code (1 : Nat) (Option.some FieldType.boolean) ∈ ztb := zt_in6 (List.mem_of_getElem? (i := 51) rfl) rfl
theorem zw_1390 : Cond.code ({ cls := "MissingLampsModel", name := "lex", desc := "()V" } : MethodName) prog_14_method_9_code (1 : Nat) (Option.none : Option FieldType) ∈ ztb := zt_in6 (List.mem_of_getElem? (i := 64) rfl) rfl
theorem zw_1391 : Cond.code ({ cls := "MissingLampsModel", name := "ahead", desc := "()V" } : MethodName) prog_14_method_10_code (6 : Nat) (Option.none : Option FieldType) ∈ ztb := zt_in6 (List.mem_of_getElem? (i := 45) rfl) rfl
theorem zw_1392 : Cond.code ({ cls := "MissingLampsModel", name := "isSign", desc := "(I)Z" } : MethodName) prog_14_method_11_code (2 : Nat) (Option.some FieldType.boolean) ∈ ztb := zt_in6 (List.mem_of_getElem? (i := 88) rfl) rfl
theorem zw_1393 : Cond.code ({ cls := "MissingLampsModel", name := "isWord", desc := "(J)Z" } : MethodName) prog_14_method_12_code (3 : Nat) (Option.some FieldType.boolean) ∈ ztb := zt_in6 (List.mem_of_getElem? (i := 72) rfl) rfl
theorem zw_1394 : Cond.code ({ cls := "MissingLampsModel", name := "must", desc := "(I)V" } : MethodName) prog_14_method_13_code (2 : Nat) (Option.none : Option FieldType) ∈ ztb := zt_in6 (List.mem_of_getElem? (i := 92) rfl) rfl
theorem zw_1395 : Cond.code ({ cls := "MissingLampsModel", name := "isOwn", desc := "(J)Z" } : MethodName) prog_14_method_14_code (3 : Nat) (Option.some FieldType.boolean) ∈ ztb := zt_in6 (List.mem_of_getElem? (i := 132) rfl) rfl
theorem zw_1396 : Cond.code ({ cls := "MissingLampsModel", name := "thingNamed", desc := "(J)I" } : MethodName) prog_14_method_15_code (4 : Nat) (Option.some FieldType.int) ∈ ztb := zt_in6 (List.mem_of_getElem? (i := 160) rfl) rfl
theorem zw_1397 : Cond.code ({ cls := "MissingLampsModel", name := "isNamed", desc := "(J)Z" } : MethodName) prog_14_method_16_code (4 : Nat) (Option.some FieldType.boolean) ∈ ztb := zt_in6 (List.mem_of_getElem? (i := 156) rfl) rfl
theorem zw_1398 : Cond.code ({ cls := "MissingLampsModel", name := "number", desc := "(II)I" } : MethodName) prog_14_method_17_code (4 : Nat) (Option.some FieldType.int) ∈ ztb := zt_in6 (List.mem_of_getElem? (i := 76) rfl) rfl
theorem zw_1399 : Cond.code ({ cls := "MissingLampsModel", name := "add", desc := "(II)V" } : MethodName) prog_14_method_18_code (3 : Nat) (Option.none : Option FieldType) ∈ ztb := zt_in6 (List.mem_of_getElem? (i := 202) rfl) rfl
theorem zw_1400 : Cond.code ({ cls := "MissingLampsModel", name := "rank", desc := "(I)I" } : MethodName) prog_14_method_19_code (1 : Nat) (Option.some FieldType.int) ∈ ztb := zt_in6 (List.mem_of_getElem? (i := 213) rfl) rfl
theorem zw_1401 : Cond.code ({ cls := "MissingLampsModel", name := "joins", desc := "(I)V" } : MethodName) prog_14_method_20_code (2 : Nat) (Option.none : Option FieldType) ∈ ztb := zt_in6 (List.mem_of_getElem? (i := 210) rfl) rfl
theorem zw_1402 : Cond.code ({ cls := "MissingLampsModel", name := "holdsBack", desc := "(I)V" } : MethodName) prog_14_method_21_code (2 : Nat) (Option.none : Option FieldType) ∈ ztb := zt_in6 (List.mem_of_getElem? (i := 194) rfl) rfl
theorem zw_1403 : Cond.code ({ cls := "MissingLampsModel", name := "pushes", desc := "(I)V" } : MethodName) prog_14_method_22_code (2 : Nat) (Option.none : Option FieldType) ∈ ztb := zt_in6 (List.mem_of_getElem? (i := 183) rfl) rfl
theorem zw_1404 : Cond.code ({ cls := "MissingLampsModel", name := "opens", desc := "(I)V" } : MethodName) prog_14_method_23_code (2 : Nat) (Option.none : Option FieldType) ∈ ztb := zt_in6 (List.mem_of_getElem? (i := 198) rfl) rfl
theorem zw_1405 : Cond.code ({ cls := "MissingLampsModel", name := "isTest", desc := "(I)Z" } : MethodName) prog_14_method_24_code (1 : Nat) (Option.some FieldType.boolean) ∈ ztb := zt_in6 (List.mem_of_getElem? (i := 190) rfl) rfl
theorem zw_1406 : Cond.code ({ cls := "MissingLampsModel", name := "operand", desc := "()Z" } : MethodName) prog_14_method_25_code (4 : Nat) (Option.some FieldType.boolean) ∈ ztb := zt_in6 (List.mem_of_getElem? (i := 187) rfl) rfl
theorem zw_1407 : Cond.code ({ cls := "MissingLampsModel", name := "goesOn", desc := "()Z" } : MethodName) prog_14_method_26_code (5 : Nat) (Option.some FieldType.boolean) ∈ ztb := zt_in6 (List.mem_of_getElem? (i := 206) rfl) rfl
theorem zw_1408 : Cond.code ({ cls := "MissingLampsModel", name := "reads", desc := "(Z)V" } : MethodName) prog_14_method_27_code (3 : Nat) (Option.none : Option FieldType) ∈ ztb := zt_in6 (List.mem_of_getElem? (i := 179) rfl) rfl
theorem zw_1409 : Cond.code ({ cls := "MissingLampsModel", name := "isCounted", desc := "(Z)Z" } : MethodName) prog_14_method_28_code (2 : Nat) (Option.some FieldType.boolean) ∈ ztb := zt_in6 (List.mem_of_getElem? (i := 105) rfl) rfl
theorem zw_1410 : Cond.code ({ cls := "MissingLampsModel", name := "must", desc := "(J)V" } : MethodName) prog_14_method_29_code (3 : Nat) (Option.none : Option FieldType) ∈ ztb := zt_in6 (List.mem_of_getElem? (i := 60) rfl) rfl
theorem zw_1411 : Cond.code ({ cls := "MissingLampsModel", name := "has2", desc := "(II)Z" } : MethodName) prog_14_method_30_code (2 : Nat) (Option.some FieldType.boolean) ∈ ztb := zt_in6 (List.mem_of_getElem? (i := 167) rfl) rfl
theorem zw_1412 : Cond.code ({ cls := "MissingLampsModel", name := "fresh", desc := "()J" } : MethodName) prog_14_method_31_code (3 : Nat) (Option.some FieldType.long) ∈ ztb := zt_in6 (List.mem_of_getElem? (i := 128) rfl) rfl
theorem zw_1413 : Cond.code ({ cls := "MissingLampsModel", name := "isInTheWay", desc := "(I)Z" } : MethodName) prog_14_method_32_code (3 : Nat) (Option.some FieldType.boolean) ∈ ztb := zt_in6 (List.mem_of_getElem? (i := 119) rfl) rfl
theorem zw_1414 : Cond.code ({ cls := "MissingLampsModel", name := "cellTold", desc := "(Z)I" } : MethodName) prog_14_method_33_code (6 : Nat) (Option.some FieldType.int) ∈ ztb := zt_in6 (List.mem_of_getElem? (i := 115) rfl) rfl
theorem zw_1415 : Cond.code ({ cls := "MissingLampsModel", name := "quaying", desc := "()V" } : MethodName) prog_14_method_34_code (1 : Nat) (Option.none : Option FieldType) ∈ ztb := zt_in6 (List.mem_of_getElem? (i := 55) rfl) rfl
theorem zw_1416 : Cond.code ({ cls := "MissingLampsModel", name := "telling", desc := "(II)I" } : MethodName) prog_14_method_35_code (3 : Nat) (Option.some FieldType.int) ∈ ztb := zt_in6 (List.mem_of_getElem? (i := 101) rfl) rfl
theorem zw_1417 : Cond.code ({ cls := "MissingLampsModel", name := "walling", desc := "()V" } : MethodName) prog_14_method_36_code (2 : Nat) (Option.none : Option FieldType) ∈ ztb := zt_in6 (List.mem_of_getElem? (i := 111) rfl) rfl
theorem zw_1418 : Cond.code ({ cls := "MissingLampsModel", name := "lacking", desc := "()V" } : MethodName) prog_14_method_37_code (2 : Nat) (Option.none : Option FieldType) ∈ ztb := zt_in6 (List.mem_of_getElem? (i := 124) rfl) rfl
theorem zw_1419 : Cond.code ({ cls := "MissingLampsModel", name := "having", desc := "()V" } : MethodName) prog_14_method_38_code (2 : Nat) (Option.none : Option FieldType) ∈ ztb := zt_in6 (List.mem_of_getElem? (i := 164) rfl) rfl
theorem zw_1420 : Cond.code ({ cls := "MissingLampsModel", name := "folking", desc := "()V" } : MethodName) prog_14_method_39_code (2 : Nat) (Option.none : Option FieldType) ∈ ztb := zt_in6 (List.mem_of_getElem? (i := 171) rfl) rfl
theorem zw_1421 : Cond.code ({ cls := "MissingLampsModel", name := "reading", desc := "(I)V" } : MethodName) prog_14_method_40_code (3 : Nat) (Option.none : Option FieldType) ∈ ztb := zt_in6 (List.mem_of_getElem? (i := 175) rfl) rfl
theorem zw_1422 : Cond.code ({ cls := "MissingLampsModel", name := "statement", desc := "()V" } : MethodName) prog_14_method_41_code (1 : Nat) (Option.none : Option FieldType) ∈ ztb := zt_in6 (List.mem_of_getElem? (i := 96) rfl) rfl
theorem zw_1423 : Cond.code ({ cls := "MissingLampsModel", name := "finishes", desc := "(I)V" } : MethodName) prog_14_method_42_code (3 : Nat) (Option.none : Option FieldType) ∈ ztb := zt_in6 (List.mem_of_getElem? (i := 84) rfl) rfl
theorem zw_1424 : Cond.code ({ cls := "MissingLampsModel", name := "quay", desc := "()I" } : MethodName) prog_14_method_43_code (2 : Nat) (Option.some FieldType.int) ∈ ztb := zt_in6 (List.mem_of_getElem? (i := 41) rfl) rfl
theorem zw_1425 : Cond.code ({ cls := "MissingLampsModel", name := "fault", desc := "(I)I" } : MethodName) prog_14_method_44_code (2 : Nat) (Option.some FieldType.int) ∈ ztb := zt_in6 (List.mem_of_getElem? (i := 221) rfl) rfl
theorem zw_1426 : Cond.code ({ cls := "MissingLampsModel", name := "refuses", desc := "(I)I" } : MethodName) prog_14_method_45_code (2 : Nat) (Option.some FieldType.int) ∈ ztb := zt_in6 (List.mem_of_getElem? (i := 29) rfl) rfl
theorem zw_1427 : Cond.code ({ cls := "MissingLampsModel", name := "status", desc := "(I)I" } : MethodName) prog_14_method_46_code (2 : Nat) (Option.some FieldType.int) ∈ ztb := zt_in6 (List.mem_of_getElem? (i := 225) rfl) rfl
theorem zw_1428 : Cond.code ({ cls := "MissingLampsModel", name := "copies", desc := "(II)V" } : MethodName) prog_14_method_47_code (4 : Nat) (Option.none : Option FieldType) ∈ ztb := zt_in6 (List.mem_of_getElem? (i := 237) rfl) rfl
theorem zw_1429 : Cond.code ({ cls := "MissingLampsModel", name := "begin", desc := "()V" } : MethodName) prog_14_method_48_code (2 : Nat) (Option.none : Option FieldType) ∈ ztb := zt_in6 (List.mem_of_getElem? (i := 217) rfl) rfl
theorem zw_1430 : Cond.code ({ cls := "MissingLampsModel", name := "slot", desc := "(I)I" } : MethodName) prog_14_method_49_code (2 : Nat) (Option.some FieldType.int) ∈ ztb := zt_in6 (List.mem_of_getElem? (i := 233) rfl) rfl
theorem zw_1431 : Cond.code ({ cls := "MissingLampsModel", name := "keeps", desc := "()V" } : MethodName) prog_14_method_50_code (1 : Nat) (Option.none : Option FieldType) ∈ ztb := zt_in7 (List.mem_of_getElem? (i := 199) rfl) rfl
theorem zw_1432 : Cond.code ({ cls := "MissingLampsModel", name := "undo", desc := "()Z" } : MethodName) prog_14_method_51_code (1 : Nat) (Option.some FieldType.boolean) ∈ ztb := zt_in6 (List.mem_of_getElem? (i := 229) rfl) rfl
theorem zw_1433 : Cond.code ({ cls := "MissingLampsModel", name := "within", desc := "(J)J" } : MethodName) prog_14_method_52_code (2 : Nat) (Option.some FieldType.long) ∈ ztb := zt_in7 (List.mem_of_getElem? (i := 42) rfl) rfl
theorem zw_1434 : Cond.code ({ cls := "MissingLampsModel", name := "floor", desc := "(JJ)J" } : MethodName) prog_14_method_53_code (6 : Nat) (Option.some FieldType.long) ∈ ztb := zt_in7 (List.mem_of_getElem? (i := 47) rfl) rfl
theorem zw_1435 : Cond.code ({ cls := "MissingLampsModel", name := "two", desc := "(IJJ)J" } : MethodName) prog_14_method_54_code (5 : Nat) (Option.some FieldType.long) ∈ ztb := zt_in7 (List.mem_of_getElem? (i := 39) rfl) rfl
theorem zw_1436 : Cond.code ({ cls := "MissingLampsModel", name := "reckons", desc := "(I)J" } : MethodName) prog_14_method_55_code (5 : Nat) (Option.some FieldType.long) ∈ ztb := zt_in7 (List.mem_of_getElem? (i := 36) rfl) rfl
theorem zw_1437 : Cond.code ({ cls := "MissingLampsModel", name := "isTold", desc := "(I)Z" } : MethodName) prog_14_method_56_code (2 : Nat) (Option.some FieldType.boolean) ∈ ztb := zt_in7 (List.mem_of_getElem? (i := 28) rfl) rfl
theorem zw_1438 : Cond.code ({ cls := "MissingLampsModel", name := "bits", desc := "(I)I" } : MethodName) prog_14_method_57_code (3 : Nat) (Option.some FieldType.int) ∈ ztb := zt_in7 (List.mem_of_getElem? (i := 16) rfl) rfl
theorem zw_1439 : Cond.code ({ cls := "MissingLampsModel", name := "isCell", desc := "(II)Z" } : MethodName) prog_14_method_58_code (3 : Nat) (Option.some FieldType.boolean) ∈ ztb := zt_in7 (List.mem_of_getElem? (i := 9) rfl) rfl
theorem zw_1440 : Cond.code ({ cls := "MissingLampsModel", name := "isCellOf", desc := "(I)Z" } : MethodName) prog_14_method_59_code (2 : Nat) (Option.some FieldType.boolean) ∈ ztb := zt_in7 (List.mem_of_getElem? (i := 5) rfl) rfl
theorem zw_1441 : Cond.code ({ cls := "MissingLampsModel", name := "isWall", desc := "(I)Z" } : MethodName) prog_14_method_60_code (2 : Nat) (Option.some FieldType.boolean) ∈ ztb := zt_in7 (List.mem_of_getElem? (i := 13) rfl) rfl
theorem zw_1442 : Cond.code ({ cls := "MissingLampsModel", name := "besideOf", desc := "(II)I" } : MethodName) prog_14_method_61_code (5 : Nat) (Option.some FieldType.int) ∈ ztb := zt_in7 (List.mem_of_getElem? (i := 96) rfl) rfl
theorem zw_1443 : Cond.code ({ cls := "MissingLampsModel", name := "lays", desc := "(II)V" } : MethodName) prog_14_method_62_code (3 : Nat) (Option.none : Option FieldType) ∈ ztb := zt_in7 (List.mem_of_getElem? (i := 32) rfl) rfl
theorem zw_1444 : Cond.code ({ cls := "MissingLampsModel", name := "glowOf", desc := "(II)I" } : MethodName) prog_14_method_63_code (5 : Nat) (Option.some FieldType.int) ∈ ztb := zt_in7 (List.mem_of_getElem? (i := 24) rfl) rfl
theorem zw_1445 : Cond.code ({ cls := "MissingLampsModel", name := "gap", desc := "(II)I" } : MethodName) prog_14_method_64_code (2 : Nat) (Option.some FieldType.int) ∈ ztb := zt_in7 (List.mem_of_getElem? (i := 51) rfl) rfl
theorem zw_1446 : Cond.code ({ cls := "MissingLampsModel", name := "lights", desc := "(II)V" } : MethodName) prog_14_method_65_code (7 : Nat) (Option.none : Option FieldType) ∈ ztb := zt_in7 (List.mem_of_getElem? (i := 20) rfl) rfl
theorem zw_1447 : Cond.code ({ cls := "MissingLampsModel", name := "leads", desc := "(IZ)V" } : MethodName) prog_14_method_66_code (8 : Nat) (Option.none : Option FieldType) ∈ ztb := zt_in7 (List.mem_of_getElem? (i := 91) rfl) rfl
theorem zw_1448 : Cond.code ({ cls := "MissingLampsModel", name := "walks", desc := "(II)V" } : MethodName) prog_14_method_67_code (8 : Nat) (Option.none : Option FieldType) ∈ ztb := zt_in7 (List.mem_of_getElem? (i := 116) rfl) rfl
theorem zw_1449 : Cond.code ({ cls := "MissingLampsModel", name := "isHome", desc := "(II)Z" } : MethodName) prog_14_method_68_code (3 : Nat) (Option.some FieldType.boolean) ∈ ztb := zt_in7 (List.mem_of_getElem? (i := 59) rfl) rfl
theorem zw_1450 : Cond.code ({ cls := "MissingLampsModel", name := "writesDown", desc := "(III)V" } : MethodName) prog_14_method_69_code (5 : Nat) (Option.none : Option FieldType) ∈ ztb := zt_in7 (List.mem_of_getElem? (i := 128) rfl) rfl
theorem zw_1451 : Cond.code ({ cls := "MissingLampsModel", name := "turnsOver", desc := "(II)V" } : MethodName) prog_14_method_70_code (3 : Nat) (Option.none : Option FieldType) ∈ ztb := zt_in7 (List.mem_of_getElem? (i := 124) rfl) rfl
theorem zw_1452 : Cond.code ({ cls := "MissingLampsModel", name := "isTurned", desc := "(II)Z" } : MethodName) prog_14_method_71_code (6 : Nat) (Option.some FieldType.boolean) ∈ ztb := zt_in7 (List.mem_of_getElem? (i := 120) rfl) rfl
theorem zw_1453 : Cond.code ({ cls := "MissingLampsModel", name := "ticks", desc := "(II)I" } : MethodName) prog_14_method_72_code (6 : Nat) (Option.some FieldType.int) ∈ ztb := zt_in7 (List.mem_of_getElem? (i := 112) rfl) rfl
theorem zw_1454 : Cond.code ({ cls := "MissingLampsModel", name := "isThing", desc := "(I)Z" } : MethodName) prog_14_method_73_code (2 : Nat) (Option.some FieldType.boolean) ∈ ztb := zt_in7 (List.mem_of_getElem? (i := 67) rfl) rfl
theorem zw_1455 : Cond.code ({ cls := "MissingLampsModel", name := "isFolk", desc := "(I)Z" } : MethodName) prog_14_method_74_code (2 : Nat) (Option.some FieldType.boolean) ∈ ztb := zt_in7 (List.mem_of_getElem? (i := 71) rfl) rfl
theorem zw_1456 : Cond.code ({ cls := "MissingLampsModel", name := "homes", desc := "(I)I" } : MethodName) prog_14_method_75_code (4 : Nat) (Option.some FieldType.int) ∈ ztb := zt_in7 (List.mem_of_getElem? (i := 55) rfl) rfl
theorem zw_1457 : Cond.code ({ cls := "MissingLampsModel", name := "has", desc := "(I)I" } : MethodName) prog_14_method_76_code (4 : Nat) (Option.some FieldType.int) ∈ ztb := zt_in7 (List.mem_of_getElem? (i := 1) rfl) rfl
theorem zw_1458 : Cond.code ({ cls := "MissingLampsModel", name := "letter", desc := "(III)I" } : MethodName) prog_14_method_77_code (10 : Nat) (Option.some FieldType.int) ∈ ztb := zt_in7 (List.mem_of_getElem? (i := 63) rfl) rfl
theorem zw_1459 : Cond.code ({ cls := "MissingLampsModel", name := "cell", desc := "(III)I" } : MethodName) prog_14_method_78_code (5 : Nat) (Option.some FieldType.int) ∈ ztb := zt_in7 (List.mem_of_getElem? (i := 76) rfl) rfl
theorem zw_1460 : Cond.code ({ cls := "MissingLampsModel", name := "partOf", desc := "(II)I" } : MethodName) prog_14_method_79_code (2 : Nat) (Option.some FieldType.int) ∈ ztb := zt_in7 (List.mem_of_getElem? (i := 83) rfl) rfl
theorem zw_1461 : Cond.code ({ cls := "MissingLampsModel", name := "thing", desc := "(II)I" } : MethodName) prog_14_method_80_code (3 : Nat) (Option.some FieldType.int) ∈ ztb := zt_in7 (List.mem_of_getElem? (i := 80) rfl) rfl
theorem zw_1462 : Cond.code ({ cls := "MissingLampsModel", name := "folk", desc := "(II)I" } : MethodName) prog_14_method_81_code (3 : Nat) (Option.some FieldType.int) ∈ ztb := zt_in7 (List.mem_of_getElem? (i := 87) rfl) rfl
theorem zw_1463 : Cond.code ({ cls := "MissingLampsModel", name := "isAhead", desc := "(III)Z" } : MethodName) prog_14_method_82_code (4 : Nat) (Option.some FieldType.boolean) ∈ ztb := zt_in7 (List.mem_of_getElem? (i := 104) rfl) rfl
theorem zw_1464 : Cond.code ({ cls := "MissingLampsModel", name := "runsOn", desc := "(I)V" } : MethodName) prog_14_method_83_code (3 : Nat) (Option.none : Option FieldType) ∈ ztb := zt_in7 (List.mem_of_getElem? (i := 108) rfl) rfl
theorem zw_1465 : Cond.code ({ cls := "MissingLampsModel", name := "later", desc := "(III)I" } : MethodName) prog_14_method_84_code (4 : Nat) (Option.some FieldType.int) ∈ ztb := zt_in7 (List.mem_of_getElem? (i := 100) rfl) rfl
theorem zw_1466 : Cond.code ({ cls := "MissingLampsModel", name := "home", desc := "(I)I" } : MethodName) prog_14_method_85_code (3 : Nat) (Option.some FieldType.int) ∈ ztb := zt_in7 (List.mem_of_getElem? (i := 132) rfl) rfl
theorem zw_1467 : Cond.code ({ cls := "MissingLampsModel", name := "missing", desc := "(II)I" } : MethodName) prog_14_method_86_code (3 : Nat) (Option.some FieldType.int) ∈ ztb := zt_in7 (List.mem_of_getElem? (i := 136) rfl) rfl
theorem zw_1468 : Cond.code ({ cls := "MissingLampsModel", name := "turnsAll", desc := "(I)V" } : MethodName) prog_14_method_87_code (3 : Nat) (Option.none : Option FieldType) ∈ ztb := zt_in7 (List.mem_of_getElem? (i := 144) rfl) rfl
theorem zw_1469 : Cond.code ({ cls := "MissingLampsModel", name := "losses", desc := "(II)I" } : MethodName) prog_14_method_88_code (5 : Nat) (Option.some FieldType.int) ∈ ztb := zt_in7 (List.mem_of_getElem? (i := 140) rfl) rfl
theorem zw_1470 : Cond.code ({ cls := "MissingLampsModel", name := "worst", desc := "(II)I" } : MethodName) prog_14_method_89_code (6 : Nat) (Option.some FieldType.int) ∈ ztb := zt_in7 (List.mem_of_getElem? (i := 148) rfl) rfl
theorem zw_1471 : Cond.code ({ cls := "MissingLampsModel", name := "cover", desc := "()I" } : MethodName) prog_14_method_90_code (5 : Nat) (Option.some FieldType.int) ∈ ztb := zt_in7 (List.mem_of_getElem? (i := 152) rfl) rfl
theorem zw_1472 : Cond.code ({ cls := "MissingLampsModel", name := "from", desc := "(II)I" } : MethodName) prog_14_method_91_code (2 : Nat) (Option.some FieldType.int) ∈ ztb := zt_in7 (List.mem_of_getElem? (i := 163) rfl) rfl
theorem zw_1473 : Cond.code ({ cls := "MissingLampsModel", name := "costOf", desc := "(III)I" } : MethodName) prog_14_method_92_code (4 : Nat) (Option.some FieldType.int) ∈ ztb := zt_in7 (List.mem_of_getElem? (i := 167) rfl) rfl
theorem zw_1474 : Cond.code ({ cls := "MissingLampsModel", name := "sends", desc := "()V" } : MethodName) prog_14_method_93_code (6 : Nat) (Option.none : Option FieldType) ∈ ztb := zt_in7 (List.mem_of_getElem? (i := 160) rfl) rfl
theorem zw_1475 : Cond.code ({ cls := "MissingLampsModel", name := "send", desc := "(I)I" } : MethodName) prog_14_method_94_code (9 : Nat) (Option.some FieldType.int) ∈ ztb := zt_in7 (List.mem_of_getElem? (i := 156) rfl) rfl
theorem zw_1476 : Cond.code ({ cls := "MissingLampsModel", name := "odds", desc := "(I)I" } : MethodName) prog_14_method_95_code (5 : Nat) (Option.some FieldType.int) ∈ ztb := zt_in7 (List.mem_of_getElem? (i := 171) rfl) rfl
theorem zw_1477 : Cond.code ({ cls := "MissingLampsModel", name := "meet", desc := "()I" } : MethodName) prog_14_method_96_code (4 : Nat) (Option.some FieldType.int) ∈ ztb := zt_in7 (List.mem_of_getElem? (i := 175) rfl) rfl
theorem zw_1478 : Cond.code ({ cls := "MissingLampsModel", name := "hueBits", desc := "(I)I" } : MethodName) prog_14_method_97_code (7 : Nat) (Option.some FieldType.int) ∈ ztb := zt_in7 (List.mem_of_getElem? (i := 183) rfl) rfl
theorem zw_1479 : Cond.code ({ cls := "MissingLampsModel", name := "hues", desc := "(I)I" } : MethodName) prog_14_method_98_code (2 : Nat) (Option.some FieldType.int) ∈ ztb := zt_in7 (List.mem_of_getElem? (i := 179) rfl) rfl
theorem zw_1480 : Cond.code ({ cls := "MissingLampsModel", name := "mostBy", desc := "(III)I" } : MethodName) prog_14_method_99_code (8 : Nat) (Option.some FieldType.int) ∈ ztb := zt_in7 (List.mem_of_getElem? (i := 191) rfl) rfl
theorem zw_1481 : Cond.code ({ cls := "MissingLampsModel", name := "tells", desc := "(II)I" } : MethodName) prog_14_method_100_code (9 : Nat) (Option.some FieldType.int) ∈ ztb := zt_in7 (List.mem_of_getElem? (i := 187) rfl) rfl
theorem zw_1482 : Cond.code ({ cls := "MissingLampsModel", name := "nights", desc := "(I)I" } : MethodName) prog_14_method_101_code (4 : Nat) (Option.some FieldType.int) ∈ ztb := zt_in7 (List.mem_of_getElem? (i := 195) rfl) rfl
theorem zw_1483 : Cond.code ({ cls := "MissingLampsModel", name := "draw", desc := "(I)I" } : MethodName) prog_14_method_102_code (2 : Nat) (Option.some FieldType.int) ∈ ztb := zt_in7 (List.mem_of_getElem? (i := 207) rfl) rfl
theorem zw_1484 : Cond.code ({ cls := "MissingLampsModel", name := "chance", desc := "(I)I" } : MethodName) prog_14_method_103_code (5 : Nat) (Option.some FieldType.int) ∈ ztb := zt_in7 (List.mem_of_getElem? (i := 203) rfl) rfl
theorem zw_1485 : Cond.code ({ cls := "MissingLampsModel", name := "turnsNow", desc := "(IZ)Z" } : MethodName) prog_14_method_104_code (3 : Nat) (Option.some FieldType.boolean) ∈ ztb := zt_in7 (List.mem_of_getElem? (i := 219) rfl) rfl
theorem zw_1486 : Cond.code ({ cls := "MissingLampsModel", name := "lose", desc := "(I)Z" } : MethodName) prog_14_method_105_code (2 : Nat) (Option.some FieldType.boolean) ∈ ztb := zt_in7 (List.mem_of_getElem? (i := 215) rfl) rfl
theorem zw_1487 : Cond.code ({ cls := "MissingLampsModel", name := "find", desc := "(I)Z" } : MethodName) prog_14_method_106_code (2 : Nat) (Option.some FieldType.boolean) ∈ ztb := zt_in7 (List.mem_of_getElem? (i := 223) rfl) rfl
theorem zw_1488 : Cond.code ({ cls := "MissingLampsModel", name := "lead", desc := "(III)Z" } : MethodName) prog_14_method_107_code (5 : Nat) (Option.some FieldType.boolean) ∈ ztb := zt_in7 (List.mem_of_getElem? (i := 227) rfl) rfl
theorem zw_1489 : Cond.code ({ cls := "MissingLampsModel", name := "seed", desc := "(I)Z" } : MethodName) prog_14_method_108_code (2 : Nat) (Option.some FieldType.boolean) ∈ ztb := zt_in7 (List.mem_of_getElem? (i := 231) rfl) rfl
theorem zw_1490 : Cond.code ({ cls := "MissingLampsModel", name := "kept", desc := "(II)I" } : MethodName) prog_14_method_109_code (3 : Nat) (Option.some FieldType.int) ∈ ztb := zt_in7 (List.mem_of_getElem? (i := 235) rfl) rfl
theorem zw_1491 : Cond.code ({ cls := "MissingLampsModel", name := "writes", desc := "(I)V" } : MethodName) prog_14_method_110_code (2 : Nat) (Option.none : Option FieldType) ∈ ztb := zt_in8 (List.mem_of_getElem? (i := 3) rfl) rfl
theorem zw_1492 : Cond.code ({ cls := "MissingLampsModel", name := "image", desc := "()I" } : MethodName) prog_14_method_111_code (3 : Nat) (Option.some FieldType.int) ∈ ztb := zt_in7 (List.mem_of_getElem? (i := 239) rfl) rfl
theorem zw_1493 : Cond.code ({ cls := "MissingLampsModel", name := "octet", desc := "(I)I" } : MethodName) prog_14_method_112_code (2 : Nat) (Option.some FieldType.int) ∈ ztb := zt_in8 (List.mem_of_getElem? (i := 7) rfl) rfl
theorem zw_1494 : Cond.code ({ cls := "MissingLampsModel", name := "folkOn", desc := "(II)Z" } : MethodName) prog_14_method_113_code (4 : Nat) (Option.some FieldType.boolean) ∈ ztb := zt_in8 (List.mem_of_getElem? (i := 19) rfl) rfl
theorem zw_1495 : Cond.code ({ cls := "MissingLampsModel", name := "comesOn", desc := "(I)Z" } : MethodName) prog_14_method_114_code (6 : Nat) (Option.some FieldType.boolean) ∈ ztb := zt_in8 (List.mem_of_getElem? (i := 15) rfl) rfl
theorem zw_1496 : Cond.code ({ cls := "MissingLampsModel", name := "on", desc := "()Z" } : MethodName) prog_14_method_115_code (2 : Nat) (Option.some FieldType.boolean) ∈ ztb := zt_in8 (List.mem_of_getElem? (i := 11) rfl) rfl
theorem zw_1497 : Cond.code ({ cls := "java/lang/Integer", name := "bitCount", desc := "(I)I" } : MethodName) prog_15_method_49_code (1 : Nat) (Option.some FieldType.int) ∈ ztb := zt_in3 (List.mem_of_getElem? (i := 108) rfl) rfl
theorem zw_1498 : Cond.initialized "java/lang/Integer" ∈ ztb := zt_in0 (List.mem_of_getElem? (i := 21) rfl) rfl
theorem zw_1499 : Cond.code ({ cls := "java/lang/Long", name := "bitCount", desc := "(J)I" } : MethodName) prog_16_method_50_code (2 : Nat) (Option.some FieldType.int) ∈ ztb := zt_in3 (List.mem_of_getElem? (i := 102) rfl) rfl
theorem zw_1500 : Cond.initialized "java/lang/Long" ∈ ztb := zt_in0 (List.mem_of_getElem? (i := 20) rfl) rfl
theorem zw_1501 : Cond.code ({ cls := "java/lang/String", name := "length", desc := "()I" } : MethodName) prog_18_method_54_code (1 : Nat) (Option.some FieldType.int) ∈ ztb := zt_in0 (List.mem_of_getElem? (i := 177) rfl) rfl
theorem zw_1502 : Cond.initialized "java/lang/String" ∈ ztb := zt_in0 (List.mem_of_getElem? (i := 6) rfl) rfl
theorem zw_1503 : Cond.code ({ cls := "java/lang/String", name := "charAt", desc := "(I)C" } : MethodName) prog_18_method_56_code (2 : Nat) (Option.some FieldType.char) ∈ ztb := zt_in0 (List.mem_of_getElem? (i := 187) rfl) rfl
theorem zw_1504 : Cond.code ({ cls := "java/lang/String", name := "coder", desc := "()B" } : MethodName) prog_18_method_152_code (1 : Nat) (Option.some FieldType.byte) ∈ ztb := zt_in0 (List.mem_of_getElem? (i := 181) rfl) rfl
theorem zw_1505 : Cond.code ({ cls := "java/lang/String", name := "isLatin1", desc := "()Z" } : MethodName) prog_18_method_154_code (1 : Nat) (Option.some FieldType.boolean) ∈ ztb := zt_in0 (List.mem_of_getElem? (i := 191) rfl) rfl
theorem zw_1506 : Cond.code ({ cls := "java/lang/String", name := "checkIndex", desc := "(II)V" } : MethodName) prog_18_method_155_code (2 : Nat) (Option.none : Option FieldType) ∈ ztb := zt_in0 (List.mem_of_getElem? (i := 197) rfl) rfl
theorem zw_1507 : Cond.code ({ cls := "java/lang/StringLatin1", name := "charAt", desc := "([BI)C" } : MethodName) prog_19_method_2_code (2 : Nat) (Option.some FieldType.char) ∈ ztb := zt_in0 (List.mem_of_getElem? (i := 194) rfl) rfl
theorem zw_1508 : Cond.initialized "java/lang/StringLatin1" ∈ ztb := zt_in0 (List.mem_of_getElem? (i := 7) rfl) rfl
theorem zw_1509 : Cond.code ({ cls := "jdk/internal/util/Preconditions", name := "checkIndex", desc := "(IILjava/util/function/BiFunction;)I" } : MethodName) prog_22_method_11_code (3 : Nat) (Option.some FieldType.int) ∈ ztb := zt_in0 (List.mem_of_getElem? (i := 202) rfl) rfl
theorem zw_1510 : Cond.initialized "jdk/internal/util/Preconditions" ∈ ztb := zt_in0 (List.mem_of_getElem? (i := 8) rfl) rfl
end
section
/-! OWN MEMORY: the cells that were made since the law's entry, in their order; a reference is a number in that order. zrun runs methods over it; z_sound: what zrun answers, the machine does. -/
/-- arrays as lists: of ints (booleans too), of longs, of references; objects by their class and fields -/
abbrev zA : Type := List Int32 ⊕ List Int64 ⊕ List (Option Nat)
abbrev zE : Type := (Nat × zA) ⊕ (Nat × List Value)
abbrev zM : Type := List zE
def zu (h0 : Nat) (x0 : Nat → Option Nat) (v : Value) : Value := match v with
  | .ref k => .ref (h0 + k)
  | .retAddr k => va_rf (x0 k)
  | .int x => .int x
  | .long x => .long x
  | .float x => .float x
  | .double x => .double x
  | .null => .null
theorem zu_cat (h0 : Nat) (x0 : Nat → Option Nat) (v : Value) : (zu h0 x0 v).category = v.category := by
  cases v with
  | retAddr k => show (va_rf (x0 k)).category = 1; cases x0 k <;> rfl
  | _ => rfl
def zua (h0 : Nat) (a : zA) : vp_A := match a with
  | .inl l => (l.length, .inl (fun j => l.getD j 0))
  | .inr (.inl l) => (l.length, .inr (.inl (fun j => l.getD j 0)))
  | .inr (.inr l) => (l.length, .inr (.inr (.inr (.inr (fun j => (l.getD j none).map (fun k => h0 + k))))))
def zue (h0 : Nat) (x0 : Nat → Option Nat) (kA : Nat → ClassId) (c : zE) : va_E := match c with
  | .inl a => .inl (kA a.1, zua h0 a.2)
  | .inr o => .inr (o.1, o.2.map (zu h0 x0))
def zaz (a : zA) : Nat := match a with
  | .inl l => l.length
  | .inr (.inl l) => l.length
  | .inr (.inr l) => l.length
theorem zua_1 (h0 : Nat) (a : zA) : (zua h0 a).1 = zaz a := by
  rcases a with l | l | l <;> rfl
theorem z_gset {α : Type} (l : List α) (k : Nat) (x d : α) (h : k < l.length) : (fun j => (l.set k x).getD j d) = fun j => if j = k then x else l.getD j d := by
  funext j
  rw [List.getD_eq_getElem?_getD, List.getD_eq_getElem?_getD, List.getElem?_set]
  by_cases hj : j = k
  · subst hj
    simp [h]
  · simp [hj, Ne.symm hj]
theorem z_grep {α : Type} (n : Nat) (d : α) : (fun j => (List.replicate n d).getD j d) = fun _ => d := by
  funext j
  rw [List.getD_eq_getElem?_getD, List.getElem?_replicate]
  split <;> rfl
def zws (h0 : Nat) (x0 : Nat → Option Nat) (kA : Nat → ClassId) : Nat → zM → va_W
  | _, [] => []
  | k, c :: r => (h0 + k, zue h0 x0 kA c) :: zws h0 x0 kA (k + 1) r
theorem zws_get (h0 : Nat) (x0 : Nat → Option Nat) (kA : Nat → ClassId) (mem : zM) : ∀ (k i : Nat), (zws h0 x0 kA k mem)[i]? = (mem[i]?).map (fun c => (h0 + (k + i), zue h0 x0 kA c)) := by
  induction mem with
  | nil => intro k i; simp [zws]
  | cons c r ih =>
    intro k i
    cases i with
    | zero => simp [zws]
    | succ i =>
      have e : k + 1 + i = k + (i + 1) := by omega
      simp only [zws, List.getElem?_cons_succ, ih, e]
theorem zws_at {h0 : Nat} {x0 : Nat → Option Nat} {kA : Nat → ClassId} {mem : zM} {i : Nat} {c : zE} (h : mem[i]? = some c) : (zws h0 x0 kA 0 mem)[i]? = some (h0 + i, zue h0 x0 kA c) := by
  rw [zws_get, h]
  simp
theorem zws_set (h0 : Nat) (x0 : Nat → Option Nat) (kA : Nat → ClassId) (c' : zE) (mem : zM) : ∀ (k i : Nat), zws h0 x0 kA k (mem.set i c') = (zws h0 x0 kA k mem).set i (h0 + (k + i), zue h0 x0 kA c') := by
  induction mem with
  | nil => intro k i; simp [zws]
  | cons c r ih =>
    intro k i
    cases i with
    | zero => simp [zws]
    | succ i =>
      have e : k + 1 + i = k + (i + 1) := by omega
      simp only [zws, List.set_cons_succ, ih, e]
theorem zws_app (h0 : Nat) (x0 : Nat → Option Nat) (kA : Nat → ClassId) (c' : zE) (mem : zM) : ∀ (k : Nat), zws h0 x0 kA k (mem ++ [c']) = zws h0 x0 kA k mem ++ [(h0 + (k + mem.length), zue h0 x0 kA c')] := by
  induction mem with
  | nil => intro k; simp [zws]
  | cons c r ih =>
    intro k
    have e : k + 1 + r.length = k + (r.length + 1) := by omega
    simp only [zws, List.cons_append, ih, e, List.length_cons]
theorem zws_D (h0 : Nat) (x0 : Nat → Option Nat) (kA : Nat → ClassId) (mem : zM) : va_D (fun q => h0 ≤ q) (zws h0 x0 kA 0 mem) := by
  refine ⟨fun i j p q hi hj he => ?_, fun k q hk => ?_⟩
  · rw [zws_get] at hi hj
    obtain ⟨a, -, ha⟩ := Option.map_eq_some_iff.mp hi
    obtain ⟨b, -, hb⟩ := Option.map_eq_some_iff.mp hj
    rw [← ha, ← hb] at he
    simp only at he
    omega
  · rw [zws_get] at hk
    obtain ⟨a, -, ha⟩ := Option.map_eq_some_iff.mp hk
    rw [← ha]
    simp only
    omega
def zsz (c : zE) : Nat := match c with
  | .inl a => zaz a.2
  | .inr o => o.2.length
def zsl : zM → Nat
  | [] => 0
  | c :: r => zsz c + zsl r
theorem zsl_app (c : zE) (mem : zM) : zsl (mem ++ [c]) = zsl mem + zsz c := by
  induction mem with
  | nil => simp [zsl]
  | cons a r ih => simp only [List.cons_append, zsl, ih]; omega
theorem zsl_set {c c' : zE} (hs : zsz c' = zsz c) (mem : zM) : ∀ k : Nat, mem[k]? = some c → zsl (mem.set k c') = zsl mem := by
  induction mem with
  | nil => intro k h; simp at h
  | cons a r ih =>
    intro k h
    cases k with
    | zero =>
      simp at h
      subst h
      simp only [List.set_cons_zero, zsl, hs]
    | succ k =>
      simp only [List.getElem?_cons_succ] at h
      simp only [List.set_cons_succ, zsl, ih k h]
def zle (a b : zM) : Prop := a.length ≤ b.length ∧ zsl a ≤ zsl b ∧ (a.length = b.length → zsl a = zsl b)
theorem zle.rf {a : zM} : zle a a := ⟨Nat.le_refl _, Nat.le_refl _, fun _ => rfl⟩
theorem zle.tr {a b c : zM} (h : zle a b) (k : zle b c) : zle a c := ⟨Nat.le_trans h.1 k.1, Nat.le_trans h.2.1 k.2.1, fun e => (h.2.2 (by have := h.1; have := k.1; omega)).trans (k.2.2 (by have := h.1; have := k.1; omega))⟩
theorem zle.app {a : zM} {c : zE} : zle a (a ++ [c]) := ⟨by simp, by rw [zsl_app]; omega, fun e => by simp at e⟩
theorem zle.set {a : zM} {k : Nat} {c c' : zE} (h : a[k]? = some c) (hs : zsz c' = zsz c) : zle a (a.set k c') := ⟨by simp, by rw [zsl_set hs a k h]; exact Nat.le_refl _, fun _ => (zsl_set hs a k h).symm⟩
def zat : zM → Nat → Option zE
  | [], _ => none
  | c :: _, 0 => some c
  | _ :: r, k + 1 => zat r k
theorem zat_eq (mem : zM) : ∀ k : Nat, zat mem k = mem[k]? := by
  induction mem with
  | nil => intro k; simp [zat]
  | cons a r ih =>
    intro k
    cases k with
    | zero => simp [zat]
    | succ k => simp [zat, ih]
/-! the locals: values by their places -/
def zlg : List (Nat × Value) → Nat → Option Value
  | [], _ => none
  | q :: r, i => bif Nat.beq q.1 i then some q.2 else zlg r i
theorem zlg_mem {i : Nat} {v : Value} : ∀ l : List (Nat × Value), zlg l i = some v → (i, v) ∈ l := by
  intro l
  induction l with
  | nil => intro h; cases h
  | cons q r ih =>
    intro h
    unfold zlg at h
    cases hb : Nat.beq q.1 i with
    | true =>
      rw [hb] at h
      simp only [cond_true, Option.some.injEq] at h
      have := Nat.eq_of_beq_eq_true hb
      rw [← h, ← this]
      exact List.mem_cons_self
    | false =>
      rw [hb] at h
      exact List.mem_cons_of_mem _ (ih h)
def zlm (h0 : Nat) (x0 : Nat → Option Nat) (l : List (Nat × Value)) : List (Nat × Value) := l.map (fun q => (q.1, zu h0 x0 q.2))
theorem zlm_at {h0 nL i : Nat} {x0 : Nat → Option Nat} {ls : Array Slot} {l : List (Nat × Value)} {v : Value} (h : lv_has ls nL (zlm h0 x0 l)) (hg : zlg l i = some v) : ls[i]? = some (.val (zu h0 x0 v)) :=
  h.2.2 (i, zu h0 x0 v) (List.mem_map.mpr ⟨(i, v), zlg_mem l hg, rfl⟩)
def zl1 (l : List (Nat × Value)) (i : Nat) (v : Value) : List (Nat × Value) := (i, v) :: l.filter (fun q => !(q.1 == i) && !(q.1 + 1 == i && q.2.category == 2))
def zl2 (l : List (Nat × Value)) (i : Nat) (v : Value) : List (Nat × Value) := (i, v) :: l.filter (fun q => !(q.1 == i) && (!(q.1 == i + 1) && !(q.1 + 1 == i && q.2.category == 2)))
theorem zl1_m (h0 : Nat) (x0 : Nat → Option Nat) (l : List (Nat × Value)) (i : Nat) (v : Value) : (i, zu h0 x0 v) :: (zlm h0 x0 l).filter (fun q => !(q.1 == i) && !(q.1 + 1 == i && q.2.category == 2)) = zlm h0 x0 (zl1 l i v) := by
  simp only [zl1, zlm, List.map_cons, List.filter_map, Function.comp_def, zu_cat]
theorem zl2_m (h0 : Nat) (x0 : Nat → Option Nat) (l : List (Nat × Value)) (i : Nat) (v : Value) : (i, zu h0 x0 v) :: (zlm h0 x0 l).filter (fun q => !(q.1 == i) && (!(q.1 == i + 1) && !(q.1 + 1 == i && q.2.category == 2))) = zlm h0 x0 (zl2 l i v) := by
  simp only [zl2, zlm, List.map_cons, List.filter_map, Function.comp_def, zu_cat]
theorem zlm_args (h0 : Nat) (x0 : Nat → Option Nat) (vs : List Value) : ∀ i : Nat, lv_args i (vs.map (zu h0 x0)) = zlm h0 x0 (lv_args i vs) := by
  induction vs with
  | nil => intro i; rfl
  | cons v r ih =>
    intro i
    simp only [List.map_cons, lv_args, zu_cat, zlm]
    rw [ih]
    rfl
def zwd (vs : List Value) : Nat := (vs.map (fun v => v.category)).sum
theorem zwd_m (h0 : Nat) (x0 : Nat → Option Nat) (vs : List Value) : zwd (vs.map (zu h0 x0)) = zwd vs := by
  simp only [zwd, List.map_map, Function.comp_def, zu_cat]
theorem zwd_sl (vs : List Value) : (lg_sl vs).length = zwd vs := by
  induction vs with
  | nil => rfl
  | cons v r ih =>
    have e : lg_sl (v :: r) = (if v.category = 2 then [Slot.val v, Slot.second] else [Slot.val v]) ++ lg_sl r := rfl
    rw [e, List.length_append, ih]
    rcases lv_cat v with h | h <;> simp [zwd, h]
/-! a state of a method: pc, locals, stack, memory; steps in the style of continuations (what goes on, what is returned), so that a test of an unknown number stays a Bool.rec at the top -/
abbrev zS : Type := Nat × List (Nat × Value) × List Value × zM
abbrev zRec (Y : Type) : Type := Nat → List Value → zM → (Option Value → zM → Option Y) → Option Y
abbrev zF : Type 1 := ∀ (Y : Type), zRec Y → zS → (zS → Option Y) → (Option Value → zM → Option Y) → Option Y
/-- a method: its name, code, locals, answer -/
abbrev zI : Type := MethodName × ByteArray × Nat × Option FieldType
/-- the system: classes, words, array kinds, what else is known of the tables, methods by number -/
abbrev zG : Type := List vw_C × List Cond × List FieldType × ((Launch × va_G × (Nat → ClassId) × Nat × (Nat → Option Nat)) → State → Prop) × (Nat → Option zI)
abbrev zCl (g : zG) : List vw_C := g.1
abbrev zTb (g : zG) : List Cond := g.2.1
abbrev zTl (g : zG) : List FieldType := g.2.2.1
abbrev zEx (g : zG) : (Launch × va_G × (Nat → ClassId) × Nat × (Nat → Option Nat)) → State → Prop := g.2.2.2.1
abbrev zMt (g : zG) : Nat → Option zI := g.2.2.2.2
/-- the start: launch, class numbers and slots, array classes, the first own address, the text's address -/
abbrev zX : Type := Launch × va_G × (Nat → ClassId) × Nat × (Nat → Option Nat)
abbrev zL (X : zX) : Launch := X.1
abbrev zD (X : zX) : va_G := X.2.1
abbrev zK (X : zX) : Nat → ClassId := X.2.2.1
abbrev zH (X : zX) : Nat := X.2.2.2.1
abbrev zx (X : zX) : Nat → Option Nat := X.2.2.2.2
abbrev zU (X : zX) : Value → Value := zu (zH X) (zx X)
abbrev zWs (X : zX) (mem : zM) : va_W := zws (zH X) (zx X) (zK X) 0 mem
def zTy (kA : Nat → ClassId) : Nat → List FieldType → List (ClassId × FieldType)
  | _, [] => []
  | k, t :: r => (kA k, t) :: zTy kA (k + 1) r
theorem zTy_get (kA : Nat → ClassId) (ts : List FieldType) : ∀ (k i : Nat), (zTy kA k ts)[i]? = (ts[i]?).map (fun t => (kA (k + i), t)) := by
  induction ts with
  | nil => intro k i; simp [zTy]
  | cons c r ih =>
    intro k i
    cases i with
    | zero => simp [zTy]
    | succ i =>
      have e : k + 1 + i = k + (i + 1) := by omega
      simp only [zTy, List.getElem?_cons_succ, ih, e]
theorem zTy_at {kA : Nat → ClassId} {ts : List FieldType} {i : Nat} {t : FieldType} (h : ts[i]? = some t) : (zTy kA 0 ts)[i]? = some (kA i, t) := by
  rw [zTy_get, h]
  simp
abbrev zTt (g : zG) (X : zX) : List (ClassId × FieldType) := zTy (zK X) 0 (zTl g)
def zExOk (g : zG) (X : zX) : Prop := (∀ (U : State) (f : JFrame) (mk : MethodId) (a : Array Value), zEx g X U → zEx g X (U.calling f mk a)) ∧ ∀ s U : State, s.WarmedH U.vm → (∀ q : Nat, q < zH X → U.heap[q]? = s.heap[q]?) → zEx g X s → zEx g X U
def zPre (g : zG) (X : zX) (mem : zM) (U : State) : Prop := U.heap.size = zH X + mem.length ∧ va_P (zD X) (zCl g) (zWs X mem) U.heap ∧ va_K (zD X) (zCl g) (zTt g X) U ∧ zEx g X U
def zQ (g : zG) (X : zX) (r : Option Value) (mem' : zM) : Array Value → State → Outcome → State → Prop := fun _ st o t => o = .returned (r.map (zU X)) ∧ va_P (zD X) (zCl g) (zWs X mem') t.heap ∧ va_F (fun q => zH X ≤ q) st t
def zrm (d : Nat) (mem mem' : zM) : Room := { frames := d, cells := mem'.length - mem.length, slots := zsl mem' - zsl mem, locals := 64 * d }
abbrev zwo (g : zG) (i : zI) : List Cond := .code i.1 i.2.1 i.2.2.1 i.2.2.2 :: zTb g
def zMet (g : zG) (X : zX) (d j : Nat) (av : List Value) (mem : zM) (r : Option Value) (mem' : zM) : Prop := ∀ i : zI, zMt g j = some i →
  Met (zL X) i.1 (zwo g i) (zrm d mem mem') (va_Pc (av.map (zU X)) (zPre g X mem)) (zQ g X r mem') (mem'.length - mem.length) (zsl mem' - zsl mem) (fun q => zH X ≤ q)
def zRecOk (g : zG) (X : zX) (d : Nat) (Y : Type) (rec : zRec Y) : Prop := ∀ (j : Nat) (av : List Value) (mem : zM) (κ : Option Value → zM → Option Y) (y : Y), rec j av mem κ = some y → ∃ (r : Option Value) (mem' : zM), κ r mem' = some y ∧ zle mem mem' ∧ zMet g X d j av mem r mem'
def zC (g : zG) (X : zX) (i : zI) (d n0 : Nat) (p : Program) (R : Room) (s : State) (m : MethodId) (args : Array Value) (meth : Method) (c : Code) : Prop :=
  p.tables.exec = Jvm.exec ∧ c.code = i.2.1 ∧ c.maxLocals = i.2.2.1 ∧ s.vm.findClass i.1.cls = some m.cls ∧ (∀ w ∈ zTb g, w.before args s = true) ∧ va_K (zD X) (zCl g) (zTt g X) s ∧ zEx g X s ∧ s.heap.size = zH X + n0 ∧ meth.locks = false ∧ meth.sig.returnType = i.2.2.2 ∧ (i.1.name = "<init>" → meth.name = "<init>") ∧ d + 1 ≤ R.frames ∧ 64 * (d + 1) ≤ R.locals
def zW (g : zG) (X : zX) (nL n0 sl0 : Nat) (p : Program) (e : Env) (R : Room) (s : State) (m : MethodId) (args : Array Value) (below : List Frame) (meth : Method) (c : Code) (Q : State → Prop) (st : zS) : Prop :=
  ∀ (H : Heap) (locs : List Loc) (ls : Array Slot), n0 ≤ st.2.2.2.length → sl0 ≤ zsl st.2.2.2 → va_P (zD X) (zCl g) (zWs X st.2.2.2) H → va_S (fun q => zH X ≤ q) s.heap H locs → lv_has ls nL (zlm (zH X) (zx X) st.2.1) →
    W p (zL X) e R s m args below meth c H locs (st.2.2.2.length - n0) (zsl st.2.2.2 - sl0) Q (F0 m st.1 ls (st.2.2.1.map (zU X)))
abbrev zQf (g : zG) (X : zX) (n0 sl0 : Nat) (below : List Frame) (args : Array Value) (s : State) (r : Option Value) (mem' : zM) : State → Prop := MQ below (zQ g X r mem') args s (mem'.length - n0) (zsl mem' - sl0) (fun q => zH X ≤ q)
/-- a step at pc is sound -/
def zOk (g : zG) (i : zI) (pc : Nat) (f : zF) : Prop := ∀ (X : zX), zExOk g X → ∀ (d : Nat) (Y : Type) (rec : zRec Y), zRecOk g X d Y rec → ∀ (lo : List (Nat × Value)) (sk : List Value) (mem : zM) (κ : zS → Option Y) (ρ : Option Value → zM → Option Y) (y : Y), f Y rec (pc, lo, sk, mem) κ ρ = some y →
  (∃ st' : zS, κ st' = some y ∧ zle mem st'.2.2.2 ∧ ∀ (n0 sl0 : Nat) (p : Program) (e : Env) (R : Room) (s : State) (m : MethodId) (args : Array Value) (below : List Frame) (meth : Method) (c : Code), zC g X i d n0 p R s m args meth c → st'.2.2.2.length ≤ n0 + R.cells → zsl st'.2.2.2 ≤ sl0 + R.slots → ∀ Q : State → Prop, zW g X i.2.2.1 n0 sl0 p e R s m args below meth c Q st' → zW g X i.2.2.1 n0 sl0 p e R s m args below meth c Q (pc, lo, sk, mem)) ∨
  (∃ (r : Option Value) (mem' : zM), ρ r mem' = some y ∧ zle mem mem' ∧ ∀ (n0 sl0 : Nat) (p : Program) (e : Env) (R : Room) (s : State) (m : MethodId) (args : Array Value) (below : List Frame) (meth : Method) (c : Code), zC g X i d n0 p R s m args meth c → zW g X i.2.2.1 n0 sl0 p e R s m args below meth c (zQf g X n0 sl0 below args s r mem') (pc, lo, sk, mem))
section ZO
variable {g : zG} {i : zI} {pc : Nat}
/-! steps that touch the stack alone -/
def zst (len : Nat) (gg : List Value → Option (List Value)) : zF := fun _ _ st κ _ => match st with
  | (pc, lo, sk, mem) => match gg sk with
  | some sk => κ (pc + len, lo, sk, mem)
  | none => none
theorem zOk_st {len : Nat} {gg : List Value → Option (List Value)} (h : ∀ (X : zX) (d n0 : Nat) (p : Program) (e : Env) (R : Room) (s : State) (m : MethodId) (args : Array Value) (below : List Frame) (meth : Method) (c : Code), zC g X i d n0 p R s m args meth c → ∀ sk sk' : List Value, gg sk = some sk' → ∀ (H : Heap) (locs : List Loc) (cells slots : Nat) (Q : State → Prop) (ls : Array Slot),
    W p (zL X) e R s m args below meth c H locs cells slots Q (F0 m (pc + len) ls (sk'.map (zU X))) → W p (zL X) e R s m args below meth c H locs cells slots Q (F0 m pc ls (sk.map (zU X)))) : zOk g i pc (zst len gg) := by
  intro X hE d Y rec hrec lo sk mem κ ρ y hf
  left
  unfold zst at hf
  dsimp only at hf
  split at hf
  · next sk' hg =>
    refine ⟨(pc + len, lo, sk', mem), hf, zle.rf, ?_⟩
    intro n0 sl0 p e R s m args below meth c hC _ _ Q hW H locs ls h1 h2 hP hS hl
    exact h X d n0 p e R s m args below meth c hC sk sk' hg H locs _ _ Q ls (hW H locs ls h1 h2 hP hS hl)
  · cases hf
def zp (v : Value) (sk : List Value) : Option (List Value) := some (v :: sk)
def zb (o : Int32 → Int32 → Int32) (sk : List Value) : Option (List Value) := match sk with
  | .int y :: .int x :: r => some (.int (o x y) :: r)
  | _ => none
theorem zb_s {o : Int32 → Int32 → Int32} {sk sk' : List Value} (h : zb o sk = some sk') : ∃ (x y : Int32) (r : List Value), sk = .int y :: .int x :: r ∧ sk' = .int (o x y) :: r := by
  unfold zb at h
  split at h
  · cases h; exact ⟨_, _, _, rfl, rfl⟩
  · cases h
def zbl (o : Int64 → Int64 → Int64) (sk : List Value) : Option (List Value) := match sk with
  | .long y :: .long x :: r => some (.long (o x y) :: r)
  | _ => none
theorem zbl_s {o : Int64 → Int64 → Int64} {sk sk' : List Value} (h : zbl o sk = some sk') : ∃ (x y : Int64) (r : List Value), sk = .long y :: .long x :: r ∧ sk' = .long (o x y) :: r := by
  unfold zbl at h
  split at h
  · cases h; exact ⟨_, _, _, rfl, rfl⟩
  · cases h
def zbs (o : Int64 → Int32 → Int64) (sk : List Value) : Option (List Value) := match sk with
  | .int y :: .long x :: r => some (.long (o x y) :: r)
  | _ => none
theorem zbs_s {o : Int64 → Int32 → Int64} {sk sk' : List Value} (h : zbs o sk = some sk') : ∃ (x : Int64) (y : Int32) (r : List Value), sk = .int y :: .long x :: r ∧ sk' = .long (o x y) :: r := by
  unfold zbs at h
  split at h
  · cases h; exact ⟨_, _, _, rfl, rfl⟩
  · cases h
def zcm (sk : List Value) : Option (List Value) := match sk with
  | .long y :: .long x :: r => some (.int (lg_cmp x y) :: r)
  | _ => none
theorem zcm_s {sk sk' : List Value} (h : zcm sk = some sk') : ∃ (x y : Int64) (r : List Value), sk = .long y :: .long x :: r ∧ sk' = .int (lg_cmp x y) :: r := by
  unfold zcm at h
  split at h
  · cases h; exact ⟨_, _, _, rfl, rfl⟩
  · cases h
noncomputable def zdi (o : Int32 → Int32 → Int32) (sk : List Value) : Option (List Value) := match sk with
  | .int y :: .int x :: r => Bool.rec (some (.int (o x y) :: r)) none (decide (y = 0))
  | _ => none
theorem zdi_s {o : Int32 → Int32 → Int32} {sk sk' : List Value} (h : zdi o sk = some sk') : ∃ (x y : Int32) (r : List Value), sk = .int y :: .int x :: r ∧ ¬ y = 0 ∧ sk' = .int (o x y) :: r := by
  unfold zdi at h
  split at h
  · next y x r =>
    cases hd : decide (y = 0) with
    | true => rw [hd] at h; cases h
    | false => rw [hd] at h; cases h; exact ⟨_, _, _, rfl, of_decide_eq_false hd, rfl⟩
  · cases h
noncomputable def zdl (o : Int64 → Int64 → Int64) (sk : List Value) : Option (List Value) := match sk with
  | .long y :: .long x :: r => Bool.rec (some (.long (o x y) :: r)) none (decide (y = 0))
  | _ => none
theorem zdl_s {o : Int64 → Int64 → Int64} {sk sk' : List Value} (h : zdl o sk = some sk') : ∃ (x y : Int64) (r : List Value), sk = .long y :: .long x :: r ∧ ¬ y = 0 ∧ sk' = .long (o x y) :: r := by
  unfold zdl at h
  split at h
  · next y x r =>
    cases hd : decide (y = 0) with
    | true => rw [hd] at h; cases h
    | false => rw [hd] at h; cases h; exact ⟨_, _, _, rfl, of_decide_eq_false hd, rfl⟩
  · cases h
def zil (sk : List Value) : Option (List Value) := match sk with
  | .int x :: r => some (.long x.toInt64 :: r)
  | _ => none
def zli (sk : List Value) : Option (List Value) := match sk with
  | .long x :: r => some (.int x.toInt32 :: r)
  | _ => none
def zc1 (v : Value) : Bool := match v with
  | .long _ => false
  | .double _ => false
  | _ => true
theorem zc1_s {h0 : Nat} {x0 : Nat → Option Nat} {v : Value} (h : zc1 v = true) : (zu h0 x0 v).category = 1 := by
  rw [zu_cat]
  cases v <;> first | rfl | cases h
noncomputable def zdu (sk : List Value) : Option (List Value) := match sk with
  | v :: r => Bool.rec none (some (v :: v :: r)) (zc1 v)
  | _ => none
theorem zdu_s {sk sk' : List Value} (h : zdu sk = some sk') : ∃ (v : Value) (r : List Value), zc1 v = true ∧ sk = v :: r ∧ sk' = v :: v :: r := by
  unfold zdu at h
  split at h
  · next v r =>
    cases hd : zc1 v with
    | false => rw [hd] at h; cases h
    | true => rw [hd] at h; cases h; exact ⟨v, r, hd, rfl, rfl⟩
  · cases h
noncomputable def zpo (sk : List Value) : Option (List Value) := match sk with
  | v :: r => Bool.rec none (some r) (zc1 v)
  | _ => none
theorem zpo_s {sk sk' : List Value} (h : zpo sk = some sk') : ∃ (v : Value) (r : List Value), zc1 v = true ∧ sk = v :: r ∧ sk' = r := by
  unfold zpo at h
  split at h
  · next v r =>
    cases hd : zc1 v with
    | false => rw [hd] at h; cases h
    | true => rw [hd] at h; cases h; exact ⟨v, _, hd, rfl, rfl⟩
  · cases h
noncomputable def zd2 (sk : List Value) : Option (List Value) := match sk with
  | .long x :: r => some (.long x :: .long x :: r)
  | v :: w :: r => Bool.rec none (Bool.rec none (some (v :: w :: v :: w :: r)) (zc1 w)) (zc1 v)
  | _ => none
theorem ok_iconst {n : Int} {v : Int32} (hd : decode i.2.1 pc = .ok (.iconst n, 1)) (hv : Int32.ofInt n = v) : zOk g i pc (zst 1 (zp (.int v))) := zOk_st fun X d n0 p e R s m args below meth c hC sk sk' hg H locs cells slots Q ls k => by
  cases hg
  exact lv_iconst hC.1 hC.2.1 hd hv k
theorem ok_bipush {n : Int} {v : Int32} (hd : decode i.2.1 pc = .ok (.bipush n, 2)) (hv : (Int8.ofInt n).toInt32 = v) : zOk g i pc (zst 2 (zp (.int v))) := zOk_st fun X d n0 p e R s m args below meth c hC sk sk' hg H locs cells slots Q ls k => by
  cases hg
  exact lv_bipush hC.1 hC.2.1 hd hv k
theorem ok_sipush {n : Int} {v : Int32} (hd : decode i.2.1 pc = .ok (.sipush n, 3)) (hv : (Int16.ofInt n).toInt32 = v) : zOk g i pc (zst 3 (zp (.int v))) := zOk_st fun X d n0 p e R s m args below meth c hC sk sk' hg H locs cells slots Q ls k => by
  cases hg
  exact lv_sipush hC.1 hC.2.1 hd hv k
theorem ok_lconst {n : Fin 2} {v : Int64} (hd : decode i.2.1 pc = .ok (.lconst n, 1)) (hv : Int64.ofNat (n : Nat) = v) : zOk g i pc (zst 1 (zp (.long v))) := zOk_st fun X d n0 p e R s m args below meth c hC sk sk' hg H locs cells slots Q ls k => by
  cases hg
  exact lv_lconst hC.1 hC.2.1 hd hv k
theorem ok_ldc {n : Nat} {v : Int32} (hw : Cond.constant i.1.cls n v ∈ zTb g) (hd : decode i.2.1 pc = .ok (.ldc n, 2)) : zOk g i pc (zst 2 (zp (.int v))) := zOk_st fun X d n0 p e R s m args below meth c hC sk sk' hg H locs cells slots Q ls k => by
  cases hg
  exact lv_ldc hC.1 hC.2.1 hC.2.2.2.1 (hC.2.2.2.2.1 _ hw) hd k
theorem ok_ldcw {n : Nat} {v : Int32} (hw : Cond.constant i.1.cls n v ∈ zTb g) (hd : decode i.2.1 pc = .ok (.ldc_w n, 3)) : zOk g i pc (zst 3 (zp (.int v))) := zOk_st fun X d n0 p e R s m args below meth c hC sk sk' hg H locs cells slots Q ls k => by
  cases hg
  exact lv_ldcw hC.1 hC.2.1 hC.2.2.2.1 (hC.2.2.2.2.1 _ hw) hd k
theorem ok_ldc2 {n : Nat} {v : Int64} (hw : Cond.constantLong i.1.cls n v ∈ zTb g) (hd : decode i.2.1 pc = .ok (.ldc2_w n, 3)) : zOk g i pc (zst 3 (zp (.long v))) := zOk_st fun X d n0 p e R s m args below meth c hC sk sk' hg H locs cells slots Q ls k => by
  cases hg
  exact lv_ldc2 hC.1 hC.2.1 hC.2.2.2.1 (hC.2.2.2.2.1 _ hw) hd k
theorem ok_iadd (hd : decode i.2.1 pc = .ok (.iadd, 1)) : zOk g i pc (zst 1 (zb (fun x y => x + y))) := zOk_st fun X d n0 p e R s m args below meth c hC sk sk' hg H locs cells slots Q ls k => by
  obtain ⟨x, y, r, rfl, rfl⟩ := zb_s hg
  exact lv_iadd hC.1 hC.2.1 hd k
theorem ok_isub (hd : decode i.2.1 pc = .ok (.isub, 1)) : zOk g i pc (zst 1 (zb (fun x y => x - y))) := zOk_st fun X d n0 p e R s m args below meth c hC sk sk' hg H locs cells slots Q ls k => by
  obtain ⟨x, y, r, rfl, rfl⟩ := zb_s hg
  exact lv_isub hC.1 hC.2.1 hd k
theorem ok_imul (hd : decode i.2.1 pc = .ok (.imul, 1)) : zOk g i pc (zst 1 (zb (fun x y => x * y))) := zOk_st fun X d n0 p e R s m args below meth c hC sk sk' hg H locs cells slots Q ls k => by
  obtain ⟨x, y, r, rfl, rfl⟩ := zb_s hg
  exact lv_imul hC.1 hC.2.1 hd k
theorem ok_iand (hd : decode i.2.1 pc = .ok (.iand, 1)) : zOk g i pc (zst 1 (zb (fun x y => x &&& y))) := zOk_st fun X d n0 p e R s m args below meth c hC sk sk' hg H locs cells slots Q ls k => by
  obtain ⟨x, y, r, rfl, rfl⟩ := zb_s hg
  exact lv_iand hC.1 hC.2.1 hd k
theorem ok_ior (hd : decode i.2.1 pc = .ok (.ior, 1)) : zOk g i pc (zst 1 (zb (fun x y => x ||| y))) := zOk_st fun X d n0 p e R s m args below meth c hC sk sk' hg H locs cells slots Q ls k => by
  obtain ⟨x, y, r, rfl, rfl⟩ := zb_s hg
  exact lv_ior hC.1 hC.2.1 hd k
theorem ok_ixor (hd : decode i.2.1 pc = .ok (.ixor, 1)) : zOk g i pc (zst 1 (zb (fun x y => x ^^^ y))) := zOk_st fun X d n0 p e R s m args below meth c hC sk sk' hg H locs cells slots Q ls k => by
  obtain ⟨x, y, r, rfl, rfl⟩ := zb_s hg
  exact lv_ixor hC.1 hC.2.1 hd k
theorem ok_ishl (hd : decode i.2.1 pc = .ok (.ishl, 1)) : zOk g i pc (zst 1 (zb (fun x y => x <<< (y &&& 31)))) := zOk_st fun X d n0 p e R s m args below meth c hC sk sk' hg H locs cells slots Q ls k => by
  obtain ⟨x, y, r, rfl, rfl⟩ := zb_s hg
  exact lv_ishl hC.1 hC.2.1 hd k
theorem ok_ishr (hd : decode i.2.1 pc = .ok (.ishr, 1)) : zOk g i pc (zst 1 (zb (fun x y => x >>> (y &&& 31)))) := zOk_st fun X d n0 p e R s m args below meth c hC sk sk' hg H locs cells slots Q ls k => by
  obtain ⟨x, y, r, rfl, rfl⟩ := zb_s hg
  exact lv_ishr hC.1 hC.2.1 hd k
theorem ok_iushr (hd : decode i.2.1 pc = .ok (.iushr, 1)) : zOk g i pc (zst 1 (zb (fun x y => (x.toUInt32 >>> (y.toUInt32 &&& Int32.toUInt32 31)).toInt32))) := zOk_st fun X d n0 p e R s m args below meth c hC sk sk' hg H locs cells slots Q ls k => by
  obtain ⟨x, y, r, rfl, rfl⟩ := zb_s hg
  exact lv_iushr hC.1 hC.2.1 hd rfl k
theorem ok_idiv (hd : decode i.2.1 pc = .ok (.idiv, 1)) : zOk g i pc (zst 1 (zdi (fun x y => x / y))) := zOk_st fun X d n0 p e R s m args below meth c hC sk sk' hg H locs cells slots Q ls k => by
  obtain ⟨x, y, r, rfl, hne, rfl⟩ := zdi_s hg
  exact lv_idiv hC.1 hC.2.1 hd hne k
theorem ok_irem (hd : decode i.2.1 pc = .ok (.irem, 1)) : zOk g i pc (zst 1 (zdi (fun x y => x - x / y * y))) := zOk_st fun X d n0 p e R s m args below meth c hC sk sk' hg H locs cells slots Q ls k => by
  obtain ⟨x, y, r, rfl, hne, rfl⟩ := zdi_s hg
  exact lv_irem hC.1 hC.2.1 hd hne k
theorem ok_ladd (hd : decode i.2.1 pc = .ok (.ladd, 1)) : zOk g i pc (zst 1 (zbl (fun x y => x + y))) := zOk_st fun X d n0 p e R s m args below meth c hC sk sk' hg H locs cells slots Q ls k => by
  obtain ⟨x, y, r, rfl, rfl⟩ := zbl_s hg
  exact lv_ladd hC.1 hC.2.1 hd k
theorem ok_lsub (hd : decode i.2.1 pc = .ok (.lsub, 1)) : zOk g i pc (zst 1 (zbl (fun x y => x - y))) := zOk_st fun X d n0 p e R s m args below meth c hC sk sk' hg H locs cells slots Q ls k => by
  obtain ⟨x, y, r, rfl, rfl⟩ := zbl_s hg
  exact lv_lsub hC.1 hC.2.1 hd k
theorem ok_lmul (hd : decode i.2.1 pc = .ok (.lmul, 1)) : zOk g i pc (zst 1 (zbl (fun x y => x * y))) := zOk_st fun X d n0 p e R s m args below meth c hC sk sk' hg H locs cells slots Q ls k => by
  obtain ⟨x, y, r, rfl, rfl⟩ := zbl_s hg
  exact lv_lmul hC.1 hC.2.1 hd k
theorem ok_land (hd : decode i.2.1 pc = .ok (.land, 1)) : zOk g i pc (zst 1 (zbl (fun x y => x &&& y))) := zOk_st fun X d n0 p e R s m args below meth c hC sk sk' hg H locs cells slots Q ls k => by
  obtain ⟨x, y, r, rfl, rfl⟩ := zbl_s hg
  exact lv_land hC.1 hC.2.1 hd k
theorem ok_lor (hd : decode i.2.1 pc = .ok (.lor, 1)) : zOk g i pc (zst 1 (zbl (fun x y => x ||| y))) := zOk_st fun X d n0 p e R s m args below meth c hC sk sk' hg H locs cells slots Q ls k => by
  obtain ⟨x, y, r, rfl, rfl⟩ := zbl_s hg
  exact lv_lor hC.1 hC.2.1 hd k
theorem ok_lxor (hd : decode i.2.1 pc = .ok (.lxor, 1)) : zOk g i pc (zst 1 (zbl (fun x y => x ^^^ y))) := zOk_st fun X d n0 p e R s m args below meth c hC sk sk' hg H locs cells slots Q ls k => by
  obtain ⟨x, y, r, rfl, rfl⟩ := zbl_s hg
  exact lv_lxor hC.1 hC.2.1 hd k
theorem ok_ldiv (hd : decode i.2.1 pc = .ok (.ldiv, 1)) : zOk g i pc (zst 1 (zdl (fun x y => x / y))) := zOk_st fun X d n0 p e R s m args below meth c hC sk sk' hg H locs cells slots Q ls k => by
  obtain ⟨x, y, r, rfl, hne, rfl⟩ := zdl_s hg
  exact lv_ldiv hC.1 hC.2.1 hd hne k
theorem ok_lrem (hd : decode i.2.1 pc = .ok (.lrem, 1)) : zOk g i pc (zst 1 (zdl (fun x y => x - x / y * y))) := zOk_st fun X d n0 p e R s m args below meth c hC sk sk' hg H locs cells slots Q ls k => by
  obtain ⟨x, y, r, rfl, hne, rfl⟩ := zdl_s hg
  exact lv_lrem hC.1 hC.2.1 hd hne k
theorem ok_lshl (hd : decode i.2.1 pc = .ok (.lshl, 1)) : zOk g i pc (zst 1 (zbs (fun x y => x <<< (y.toInt64 &&& 63)))) := zOk_st fun X d n0 p e R s m args below meth c hC sk sk' hg H locs cells slots Q ls k => by
  obtain ⟨x, y, r, rfl, rfl⟩ := zbs_s hg
  exact lv_lshl hC.1 hC.2.1 hd rfl k
theorem ok_lshr (hd : decode i.2.1 pc = .ok (.lshr, 1)) : zOk g i pc (zst 1 (zbs (fun x y => x >>> (y.toInt64 &&& 63)))) := zOk_st fun X d n0 p e R s m args below meth c hC sk sk' hg H locs cells slots Q ls k => by
  obtain ⟨x, y, r, rfl, rfl⟩ := zbs_s hg
  exact lv_lshr hC.1 hC.2.1 hd rfl k
theorem ok_lushr (hd : decode i.2.1 pc = .ok (.lushr, 1)) : zOk g i pc (zst 1 (zbs (fun x y => (x.toUInt64 >>> (y.toInt64.toUInt64 &&& Int64.toUInt64 63)).toInt64))) := zOk_st fun X d n0 p e R s m args below meth c hC sk sk' hg H locs cells slots Q ls k => by
  obtain ⟨x, y, r, rfl, rfl⟩ := zbs_s hg
  exact lv_lushr hC.1 hC.2.1 hd rfl k
theorem ok_lcmp (hd : decode i.2.1 pc = .ok (.lcmp, 1)) : zOk g i pc (zst 1 zcm) := zOk_st fun X d n0 p e R s m args below meth c hC sk sk' hg H locs cells slots Q ls k => by
  obtain ⟨x, y, r, rfl, rfl⟩ := zcm_s hg
  exact W.lcmp hC.1 hC.2.1 hd k
theorem ok_i2l (hd : decode i.2.1 pc = .ok (.i2l, 1)) : zOk g i pc (zst 1 zil) := zOk_st fun X d n0 p e R s m args below meth c hC sk sk' hg H locs cells slots Q ls k => by
  unfold zil at hg
  split at hg
  · cases hg; exact lv_i2l hC.1 hC.2.1 hd rfl k
  · cases hg
theorem ok_l2i (hd : decode i.2.1 pc = .ok (.l2i, 1)) : zOk g i pc (zst 1 zli) := zOk_st fun X d n0 p e R s m args below meth c hC sk sk' hg H locs cells slots Q ls k => by
  unfold zli at hg
  split at hg
  · cases hg; exact lv_l2i hC.1 hC.2.1 hd rfl k
  · cases hg
theorem ok_dup (hd : decode i.2.1 pc = .ok (.dup, 1)) : zOk g i pc (zst 1 zdu) := zOk_st fun X d n0 p e R s m args below meth c hC sk sk' hg H locs cells slots Q ls k => by
  obtain ⟨v, r, hv, rfl, rfl⟩ := zdu_s hg
  exact lv_dup hC.1 hC.2.1 hd (zc1_s hv) k
theorem ok_pop (hd : decode i.2.1 pc = .ok (.pop, 1)) : zOk g i pc (zst 1 zpo) := zOk_st fun X d n0 p e R s m args below meth c hC sk sk' hg H locs cells slots Q ls k => by
  obtain ⟨v, r, hv, rfl, rfl⟩ := zpo_s hg
  exact lv_pop hC.1 hC.2.1 hd (zc1_s hv) k
theorem ok_dup2 (hd : decode i.2.1 pc = .ok (.dup2, 1)) : zOk g i pc (zst 1 zd2) := zOk_st fun X d n0 p e R s m args below meth c hC sk sk' hg H locs cells slots Q ls k => by
  unfold zd2 at hg
  split at hg
  · cases hg; exact lv_dup2_2 hC.1 hC.2.1 hd rfl k
  · next v w r _ =>
    cases hv : zc1 v with
    | false => rw [hv] at hg; cases hg
    | true =>
      cases hw : zc1 w with
      | false => rw [hv, hw] at hg; cases hg
      | true => rw [hv, hw] at hg; cases hg; exact lv_dup2_11 hC.1 hC.2.1 hd (zc1_s hv) (zc1_s hw) k
  · cases hg
/-! tests and jumps -/
noncomputable def zif (P : Int32 → Bool) (len tgt : Nat) : zF := fun _ _ st κ _ => match st with
  | (pc, lo, sk, mem) => match sk with
  | .int x :: r => Bool.rec (κ (pc + len, lo, r, mem)) (κ (tgt, lo, r, mem)) (P x)
  | _ => none
noncomputable def zic (P : Int32 → Int32 → Bool) (len tgt : Nat) : zF := fun _ _ st κ _ => match st with
  | (pc, lo, sk, mem) => match sk with
  | .int y :: .int x :: r => Bool.rec (κ (pc + len, lo, r, mem)) (κ (tgt, lo, r, mem)) (P x y)
  | _ => none
theorem zOk_if {P : Int32 → Bool} {len tgt : Nat} (h : ∀ (X : zX) (d n0 : Nat) (p : Program) (e : Env) (R : Room) (s : State) (m : MethodId) (args : Array Value) (below : List Frame) (meth : Method) (c : Code), zC g X i d n0 p R s m args meth c → ∀ (x : Int32) (r : List Value) (H : Heap) (locs : List Loc) (cells slots : Nat) (Q : State → Prop) (ls : Array Slot),
    (P x = true → W p (zL X) e R s m args below meth c H locs cells slots Q (F0 m tgt ls r)) → (P x = false → W p (zL X) e R s m args below meth c H locs cells slots Q (F0 m (pc + len) ls r)) → W p (zL X) e R s m args below meth c H locs cells slots Q (F0 m pc ls (.int x :: r))) : zOk g i pc (zif P len tgt) := by
  intro X hE d Y rec hrec lo sk mem κ ρ y hf
  left
  unfold zif at hf
  dsimp only at hf
  split at hf
  · next x r =>
    cases hb : P x with
    | true =>
      rw [hb] at hf
      refine ⟨(tgt, lo, r, mem), hf, zle.rf, ?_⟩
      intro n0 sl0 p e R s m args below meth c hC _ _ Q hW H locs ls h1 h2 hP hS hl
      exact h X d n0 p e R s m args below meth c hC x _ H locs _ _ Q ls (fun _ => hW H locs ls h1 h2 hP hS hl) (fun q => by rw [hb] at q; cases q)
    | false =>
      rw [hb] at hf
      refine ⟨(pc + len, lo, r, mem), hf, zle.rf, ?_⟩
      intro n0 sl0 p e R s m args below meth c hC _ _ Q hW H locs ls h1 h2 hP hS hl
      exact h X d n0 p e R s m args below meth c hC x _ H locs _ _ Q ls (fun q => by rw [hb] at q; cases q) (fun _ => hW H locs ls h1 h2 hP hS hl)
  · cases hf
theorem zOk_ic {P : Int32 → Int32 → Bool} {len tgt : Nat} (h : ∀ (X : zX) (d n0 : Nat) (p : Program) (e : Env) (R : Room) (s : State) (m : MethodId) (args : Array Value) (below : List Frame) (meth : Method) (c : Code), zC g X i d n0 p R s m args meth c → ∀ (x y : Int32) (r : List Value) (H : Heap) (locs : List Loc) (cells slots : Nat) (Q : State → Prop) (ls : Array Slot),
    (P x y = true → W p (zL X) e R s m args below meth c H locs cells slots Q (F0 m tgt ls r)) → (P x y = false → W p (zL X) e R s m args below meth c H locs cells slots Q (F0 m (pc + len) ls r)) → W p (zL X) e R s m args below meth c H locs cells slots Q (F0 m pc ls (.int y :: .int x :: r))) : zOk g i pc (zic P len tgt) := by
  intro X hE d Y rec hrec lo sk mem κ ρ y hf
  left
  unfold zic at hf
  dsimp only at hf
  split at hf
  · next y x r =>
    cases hb : P x y with
    | true =>
      rw [hb] at hf
      refine ⟨(tgt, lo, r, mem), hf, zle.rf, ?_⟩
      intro n0 sl0 p e R s m args below meth c hC _ _ Q hW H locs ls h1 h2 hP hS hl
      exact h X d n0 p e R s m args below meth c hC x y _ H locs _ _ Q ls (fun _ => hW H locs ls h1 h2 hP hS hl) (fun q => by rw [hb] at q; cases q)
    | false =>
      rw [hb] at hf
      refine ⟨(pc + len, lo, r, mem), hf, zle.rf, ?_⟩
      intro n0 sl0 p e R s m args below meth c hC _ _ Q hW H locs ls h1 h2 hP hS hl
      exact h X d n0 p e R s m args below meth c hC x y _ H locs _ _ Q ls (fun q => by rw [hb] at q; cases q) (fun _ => hW H locs ls h1 h2 hP hS hl)
  · cases hf
theorem ok_if_eq {off : Int} {tgt : Nat} (hd : decode i.2.1 pc = .ok (.ifCond .eq off, 3)) (ht : (pc : Int) + off = (tgt : Int)) : zOk g i pc (zif (fun x => decide (x = 0)) 3 tgt) := zOk_if fun X d n0 p e R s m args below meth c hC x r H locs cells slots Q ls kt kf => lv_if_eq hC.1 hC.2.1 hd ht (fun q => kt (decide_eq_true q)) (fun q => kf (decide_eq_false q))
theorem ok_icmp_eq {off : Int} {tgt : Nat} (hd : decode i.2.1 pc = .ok (.if_icmp .eq off, 3)) (ht : (pc : Int) + off = (tgt : Int)) : zOk g i pc (zic (fun x y => decide (x = y)) 3 tgt) := zOk_ic fun X d n0 p e R s m args below meth c hC x y r H locs cells slots Q ls kt kf => lv_icmp_eq hC.1 hC.2.1 hd ht (fun q => kt (decide_eq_true q)) (fun q => kf (decide_eq_false q))
theorem ok_if_ne {off : Int} {tgt : Nat} (hd : decode i.2.1 pc = .ok (.ifCond .ne off, 3)) (ht : (pc : Int) + off = (tgt : Int)) : zOk g i pc (zif (fun x => !decide (x = 0)) 3 tgt) := zOk_if fun X d n0 p e R s m args below meth c hC x r H locs cells slots Q ls kt kf => lv_if_ne hC.1 hC.2.1 hd ht (fun q => kt (by simp [q])) (fun q => kf (by simp [q]))
theorem ok_icmp_ne {off : Int} {tgt : Nat} (hd : decode i.2.1 pc = .ok (.if_icmp .ne off, 3)) (ht : (pc : Int) + off = (tgt : Int)) : zOk g i pc (zic (fun x y => !decide (x = y)) 3 tgt) := zOk_ic fun X d n0 p e R s m args below meth c hC x y r H locs cells slots Q ls kt kf => lv_icmp_ne hC.1 hC.2.1 hd ht (fun q => kt (by simp [q])) (fun q => kf (by simp [q]))
theorem ok_if_lt {off : Int} {tgt : Nat} (hd : decode i.2.1 pc = .ok (.ifCond .lt off, 3)) (ht : (pc : Int) + off = (tgt : Int)) : zOk g i pc (zif (fun x => decide (x < 0)) 3 tgt) := zOk_if fun X d n0 p e R s m args below meth c hC x r H locs cells slots Q ls kt kf => lv_if_lt hC.1 hC.2.1 hd ht (fun q => kt (decide_eq_true q)) (fun q => kf (decide_eq_false q))
theorem ok_icmp_lt {off : Int} {tgt : Nat} (hd : decode i.2.1 pc = .ok (.if_icmp .lt off, 3)) (ht : (pc : Int) + off = (tgt : Int)) : zOk g i pc (zic (fun x y => decide (x < y)) 3 tgt) := zOk_ic fun X d n0 p e R s m args below meth c hC x y r H locs cells slots Q ls kt kf => lv_icmp_lt hC.1 hC.2.1 hd ht (fun q => kt (decide_eq_true q)) (fun q => kf (decide_eq_false q))
theorem ok_if_ge {off : Int} {tgt : Nat} (hd : decode i.2.1 pc = .ok (.ifCond .ge off, 3)) (ht : (pc : Int) + off = (tgt : Int)) : zOk g i pc (zif (fun x => decide (0 ≤ x)) 3 tgt) := zOk_if fun X d n0 p e R s m args below meth c hC x r H locs cells slots Q ls kt kf => lv_if_ge hC.1 hC.2.1 hd ht (fun q => kt (decide_eq_true q)) (fun q => kf (decide_eq_false q))
theorem ok_icmp_ge {off : Int} {tgt : Nat} (hd : decode i.2.1 pc = .ok (.if_icmp .ge off, 3)) (ht : (pc : Int) + off = (tgt : Int)) : zOk g i pc (zic (fun x y => decide (y ≤ x)) 3 tgt) := zOk_ic fun X d n0 p e R s m args below meth c hC x y r H locs cells slots Q ls kt kf => lv_icmp_ge hC.1 hC.2.1 hd ht (fun q => kt (decide_eq_true q)) (fun q => kf (decide_eq_false q))
theorem ok_if_gt {off : Int} {tgt : Nat} (hd : decode i.2.1 pc = .ok (.ifCond .gt off, 3)) (ht : (pc : Int) + off = (tgt : Int)) : zOk g i pc (zif (fun x => decide (0 < x)) 3 tgt) := zOk_if fun X d n0 p e R s m args below meth c hC x r H locs cells slots Q ls kt kf => lv_if_gt hC.1 hC.2.1 hd ht (fun q => kt (decide_eq_true q)) (fun q => kf (decide_eq_false q))
theorem ok_icmp_gt {off : Int} {tgt : Nat} (hd : decode i.2.1 pc = .ok (.if_icmp .gt off, 3)) (ht : (pc : Int) + off = (tgt : Int)) : zOk g i pc (zic (fun x y => decide (y < x)) 3 tgt) := zOk_ic fun X d n0 p e R s m args below meth c hC x y r H locs cells slots Q ls kt kf => lv_icmp_gt hC.1 hC.2.1 hd ht (fun q => kt (decide_eq_true q)) (fun q => kf (decide_eq_false q))
theorem ok_if_le {off : Int} {tgt : Nat} (hd : decode i.2.1 pc = .ok (.ifCond .le off, 3)) (ht : (pc : Int) + off = (tgt : Int)) : zOk g i pc (zif (fun x => decide (x ≤ 0)) 3 tgt) := zOk_if fun X d n0 p e R s m args below meth c hC x r H locs cells slots Q ls kt kf => lv_if_le hC.1 hC.2.1 hd ht (fun q => kt (decide_eq_true q)) (fun q => kf (decide_eq_false q))
theorem ok_icmp_le {off : Int} {tgt : Nat} (hd : decode i.2.1 pc = .ok (.if_icmp .le off, 3)) (ht : (pc : Int) + off = (tgt : Int)) : zOk g i pc (zic (fun x y => decide (x ≤ y)) 3 tgt) := zOk_ic fun X d n0 p e R s m args below meth c hC x y r H locs cells slots Q ls kt kf => lv_icmp_le hC.1 hC.2.1 hd ht (fun q => kt (decide_eq_true q)) (fun q => kf (decide_eq_false q))
def zgt (tgt : Nat) : zF := fun _ _ st κ _ => match st with
  | (pc, lo, sk, mem) => κ (tgt, lo, sk, mem)
theorem ok_goto {off : Int} {tgt : Nat} (hd : decode i.2.1 pc = .ok (.goto off, 3)) (ht : (pc : Int) + off = (tgt : Int)) : zOk g i pc (zgt tgt) := by
  intro X hE d Y rec hrec lo sk mem κ ρ y hf
  refine Or.inl ⟨(tgt, lo, sk, mem), hf, zle.rf, ?_⟩
  intro n0 sl0 p e R s m args below meth c hC _ _ Q hW H locs ls h1 h2 hP hS hl
  exact lv_goto hC.1 hC.2.1 hd ht (hW H locs ls h1 h2 hP hS hl)
/-! switches: the pairs of key and target, one after the other -/
noncomputable def zsw (ks : List (Int32 × Nat)) (dflt : Nat) (x : Int32) {Z : Type} (κ : Nat → Z) : Z := List.rec (κ dflt) (fun q _ ih => Bool.rec ih (κ q.2) (decide (x = q.1))) ks
theorem zsw_s {Z : Type} {x : Int32} {dflt : Nat} {κ : Nat → Z} : ∀ ks : List (Int32 × Nat), (∃ q ∈ ks, x = q.1 ∧ zsw ks dflt x κ = κ q.2) ∨ ((∀ q ∈ ks, ¬ x = q.1) ∧ zsw ks dflt x κ = κ dflt) := by
  intro ks
  induction ks with
  | nil => exact Or.inr ⟨fun q h => by simp at h, rfl⟩
  | cons a r ih =>
    have e : zsw (a :: r) dflt x κ = Bool.rec (zsw r dflt x κ) (κ a.2) (decide (x = a.1)) := rfl
    cases hb : decide (x = a.1) with
    | true =>
      rw [hb] at e
      exact Or.inl ⟨a, List.mem_cons_self, of_decide_eq_true hb, e⟩
    | false =>
      rw [hb] at e
      have hne := of_decide_eq_false hb
      rcases ih with ⟨q, h1, h2, h3⟩ | ⟨h1, h2⟩
      · exact Or.inl ⟨q, List.mem_cons_of_mem _ h1, h2, e.trans h3⟩
      · exact Or.inr ⟨fun q hq => (List.mem_cons.mp hq).elim (fun z => by rw [z]; exact hne) (h1 q), e.trans h2⟩
noncomputable def zts (ks : List (Int32 × Nat)) (dflt : Nat) : zF := fun _ _ st κ _ => match st with
  | (pc, lo, sk, mem) => match sk with
  | .int x :: r => zsw ks dflt x (fun t => κ (t, lo, r, mem))
  | _ => none
theorem zOk_sw {ks : List (Int32 × Nat)} {dflt : Nat} (h : ∀ (X : zX) (d n0 : Nat) (p : Program) (e : Env) (R : Room) (s : State) (m : MethodId) (args : Array Value) (below : List Frame) (meth : Method) (c : Code), zC g X i d n0 p R s m args meth c → ∀ (x : Int32) (r : List Value) (H : Heap) (locs : List Loc) (cells slots : Nat) (Q : State → Prop) (ls : Array Slot) (t : Nat),
    ((∃ q ∈ ks, x = q.1 ∧ t = q.2) ∨ ((∀ q ∈ ks, ¬ x = q.1) ∧ t = dflt)) → W p (zL X) e R s m args below meth c H locs cells slots Q (F0 m t ls r) → W p (zL X) e R s m args below meth c H locs cells slots Q (F0 m pc ls (.int x :: r))) : zOk g i pc (zts ks dflt) := by
  intro X hE d Y rec hrec lo sk mem κ ρ y hf
  left
  unfold zts at hf
  dsimp only at hf
  split at hf
  · next x r =>
    rcases zsw_s (x := x) (dflt := dflt) (κ := fun t => κ (t, lo, r, mem)) ks with ⟨q, h1, h2, h3⟩ | ⟨h1, h2⟩
    · rw [h3] at hf
      refine ⟨(q.2, lo, r, mem), hf, zle.rf, ?_⟩
      intro n0 sl0 p e R s m args below meth c hC _ _ Q hW H locs ls g1 g2 hP hS hl
      exact h X d n0 p e R s m args below meth c hC x _ H locs _ _ Q ls q.2 (Or.inl ⟨q, h1, h2, rfl⟩) (hW H locs ls g1 g2 hP hS hl)
    · rw [h2] at hf
      refine ⟨(dflt, lo, r, mem), hf, zle.rf, ?_⟩
      intro n0 sl0 p e R s m args below meth c hC _ _ Q hW H locs ls g1 g2 hP hS hl
      exact h X d n0 p e R s m args below meth c hC x _ H locs _ _ Q ls dflt (Or.inr ⟨h1, rfl⟩) (hW H locs ls g1 g2 hP hS hl)
  · cases hf
/-- a tableswitch, its keys lo .. hi one after the other -/
theorem ok_tsw {ks : List (Int32 × Nat)} {dflt : Nat} {df lo hi : Int} {offs : Array Int} {len : Nat} (hd : decode i.2.1 pc = .ok (.tableswitch df lo hi offs, len)) (ht : (pc : Int) + df = (dflt : Int))
    (h1 : ks.all (fun q => decide (lo ≤ q.1.toInt) && decide (q.1.toInt ≤ hi) && decide ((offs[(q.1.toInt - lo).toNat]?).map (fun o => (pc : Int) + o) = some (q.2 : Int))) = true) (h2 : ks.map (fun q => q.1.toInt) = (List.range ks.length).map (fun (k : Nat) => lo + (k : Int))) (h3 : lo + (ks.length : Int) = hi + 1) : zOk g i pc (zts ks dflt) := zOk_sw fun X d n0 p e R s m args below meth c hC x r H locs cells slots Q ls t hor k => by
  rcases hor with ⟨q, hq, hx, rfl⟩ | ⟨hn, rfl⟩
  · have hq1 := List.all_eq_true.mp h1 q hq
    simp only [Bool.and_eq_true, decide_eq_true_eq] at hq1
    obtain ⟨⟨a1, a2⟩, a3⟩ := hq1
    obtain ⟨o, b1, b2⟩ := Option.map_eq_some_iff.mp a3
    exact lv_tableIn hC.1 hC.2.1 hd (by rw [hx]; omega) (by rw [hx]; omega) (by rw [hx]; exact b1) b2 k
  · refine lv_tableOut hC.1 hC.2.1 hd ?_ ht k
    apply Classical.byContradiction
    intro hc
    have c1 : lo ≤ x.toInt := by omega
    have c2 : x.toInt ≤ hi := by omega
    have hk : (x.toInt - lo).toNat < ks.length := by omega
    have hm : (x.toInt - lo).toNat ∈ List.range ks.length := List.mem_range.mpr hk
    have hm2 : lo + (((x.toInt - lo).toNat : Nat) : Int) ∈ ks.map (fun q => q.1.toInt) := by
      rw [h2]
      exact List.mem_map.mpr ⟨_, hm, rfl⟩
    obtain ⟨q, hq, he⟩ := List.mem_map.mp hm2
    exact hn q hq (Int32.toInt_inj.mp (by rw [he]; omega))
/-! locals -/
def zli4 (k : Nat) (len : Nat) : zF := fun _ _ st κ _ => match st with
  | (pc, lo, sk, mem) => match zlg lo k with
  | some (.int x) => κ (pc + len, lo, .int x :: sk, mem)
  | _ => none
def zll4 (k : Nat) (len : Nat) : zF := fun _ _ st κ _ => match st with
  | (pc, lo, sk, mem) => match zlg lo k with
  | some (.long x) => κ (pc + len, lo, .long x :: sk, mem)
  | _ => none
def zla4 (k : Nat) (len : Nat) : zF := fun _ _ st κ _ => match st with
  | (pc, lo, sk, mem) => match zlg lo k with
  | some (.ref x) => κ (pc + len, lo, .ref x :: sk, mem)
  | _ => none
theorem ok_iload_n {k : Fin 4} {j : Nat} (hd : decode i.2.1 pc = .ok (.iload_n k, 1)) (hj : (k : Nat) = j) : zOk g i pc (zli4 j 1) := by
  intro X hE d Y rec hrec lo sk mem κ ρ y hf
  left
  unfold zli4 at hf
  dsimp only at hf
  split at hf
  · next x hg =>
    refine ⟨(pc + 1, lo, .int x :: sk, mem), hf, zle.rf, ?_⟩
    intro n0 sl0 p e R s m args below meth c hC _ _ Q hW H locs ls h1 h2 hP hS hl
    exact lv_iload_n hC.1 hC.2.1 hd hj (zlm_at hl hg) (hW H locs ls h1 h2 hP hS hl)
  · cases hf
theorem ok_iload {j : Nat} (hd : decode i.2.1 pc = .ok (.iload j, 2)) : zOk g i pc (zli4 j 2) := by
  intro X hE d Y rec hrec lo sk mem κ ρ y hf
  left
  unfold zli4 at hf
  dsimp only at hf
  split at hf
  · next x hg =>
    refine ⟨(pc + 2, lo, .int x :: sk, mem), hf, zle.rf, ?_⟩
    intro n0 sl0 p e R s m args below meth c hC _ _ Q hW H locs ls h1 h2 hP hS hl
    exact lv_iload hC.1 hC.2.1 hd (zlm_at hl hg) (hW H locs ls h1 h2 hP hS hl)
  · cases hf
theorem ok_lload_n {k : Fin 4} {j : Nat} (hd : decode i.2.1 pc = .ok (.lload_n k, 1)) (hj : (k : Nat) = j) : zOk g i pc (zll4 j 1) := by
  intro X hE d Y rec hrec lo sk mem κ ρ y hf
  left
  unfold zll4 at hf
  dsimp only at hf
  split at hf
  · next x hg =>
    refine ⟨(pc + 1, lo, .long x :: sk, mem), hf, zle.rf, ?_⟩
    intro n0 sl0 p e R s m args below meth c hC _ _ Q hW H locs ls h1 h2 hP hS hl
    exact lv_lload_n hC.1 hC.2.1 hd hj (zlm_at hl hg) (hW H locs ls h1 h2 hP hS hl)
  · cases hf
theorem ok_lload {j : Nat} (hd : decode i.2.1 pc = .ok (.lload j, 2)) : zOk g i pc (zll4 j 2) := by
  intro X hE d Y rec hrec lo sk mem κ ρ y hf
  left
  unfold zll4 at hf
  dsimp only at hf
  split at hf
  · next x hg =>
    refine ⟨(pc + 2, lo, .long x :: sk, mem), hf, zle.rf, ?_⟩
    intro n0 sl0 p e R s m args below meth c hC _ _ Q hW H locs ls h1 h2 hP hS hl
    exact lv_lload hC.1 hC.2.1 hd (zlm_at hl hg) (hW H locs ls h1 h2 hP hS hl)
  · cases hf
theorem ok_aload_n {k : Fin 4} {j : Nat} (hd : decode i.2.1 pc = .ok (.aload_n k, 1)) (hj : (k : Nat) = j) : zOk g i pc (zla4 j 1) := by
  intro X hE d Y rec hrec lo sk mem κ ρ y hf
  left
  unfold zla4 at hf
  dsimp only at hf
  split at hf
  · next x hg =>
    refine ⟨(pc + 1, lo, .ref x :: sk, mem), hf, zle.rf, ?_⟩
    intro n0 sl0 p e R s m args below meth c hC _ _ Q hW H locs ls h1 h2 hP hS hl
    exact lv_aload_n hC.1 hC.2.1 hd hj (zlm_at hl hg) (hW H locs ls h1 h2 hP hS hl)
  · cases hf
theorem ok_aload {j : Nat} (hd : decode i.2.1 pc = .ok (.aload j, 2)) : zOk g i pc (zla4 j 2) := by
  intro X hE d Y rec hrec lo sk mem κ ρ y hf
  left
  unfold zla4 at hf
  dsimp only at hf
  split at hf
  · next x hg =>
    refine ⟨(pc + 2, lo, .ref x :: sk, mem), hf, zle.rf, ?_⟩
    intro n0 sl0 p e R s m args below meth c hC _ _ Q hW H locs ls h1 h2 hP hS hl
    exact lv_aload hC.1 hC.2.1 hd (zlm_at hl hg) (hW H locs ls h1 h2 hP hS hl)
  · cases hf
noncomputable def zsi4 (nL k : Nat) (len : Nat) : zF := fun _ _ st κ _ => match st with
  | (pc, lo, sk, mem) => match sk with
  | .int x :: r => Bool.rec none (κ (pc + len, zl1 lo k (.int x), r, mem)) (Nat.ble (k + 1) nL)
  | _ => none
theorem ok_istore_n {k : Fin 4} {j : Nat} (hd : decode i.2.1 pc = .ok (.istore_n k, 1)) (hj : (k : Nat) = j) : zOk g i pc (zsi4 i.2.2.1 j 1) := by
  intro X hE d Y rec hrec lo sk mem κ ρ y hf
  left
  unfold zsi4 at hf
  dsimp only at hf
  split at hf
  · next x r =>
    cases hb : Nat.ble (j + 1) i.2.2.1 with
    | false => rw [hb] at hf; cases hf
    | true =>
      rw [hb] at hf
      refine ⟨(pc + 1, zl1 lo j (.int x), r, mem), hf, zle.rf, ?_⟩
      intro n0 sl0 p e R s m args below meth c hC _ _ Q hW H locs ls h1 h2 hP hS hl
      exact lv_istore_n hC.1 hC.2.1 hd hj hl (by have := Nat.le_of_ble_eq_true hb; omega) (zl1_m (zH X) (zx X) lo j (.int x)) (fun ls' hl' => hW H locs ls' h1 h2 hP hS hl')
  · cases hf
theorem ok_istore {j : Nat} (hd : decode i.2.1 pc = .ok (.istore j, 2)) : zOk g i pc (zsi4 i.2.2.1 j 2) := by
  intro X hE d Y rec hrec lo sk mem κ ρ y hf
  left
  unfold zsi4 at hf
  dsimp only at hf
  split at hf
  · next x r =>
    cases hb : Nat.ble (j + 1) i.2.2.1 with
    | false => rw [hb] at hf; cases hf
    | true =>
      rw [hb] at hf
      refine ⟨(pc + 2, zl1 lo j (.int x), r, mem), hf, zle.rf, ?_⟩
      intro n0 sl0 p e R s m args below meth c hC _ _ Q hW H locs ls h1 h2 hP hS hl
      exact lv_istore hC.1 hC.2.1 hd hl (by have := Nat.le_of_ble_eq_true hb; omega) (zl1_m (zH X) (zx X) lo j (.int x)) (fun ls' hl' => hW H locs ls' h1 h2 hP hS hl')
  · cases hf
noncomputable def zsl4 (nL k : Nat) (len : Nat) : zF := fun _ _ st κ _ => match st with
  | (pc, lo, sk, mem) => match sk with
  | .long x :: r => Bool.rec none (κ (pc + len, zl2 lo k (.long x), r, mem)) (Nat.ble (k + 2) nL)
  | _ => none
theorem ok_lstore_n {k : Fin 4} {j : Nat} (hd : decode i.2.1 pc = .ok (.lstore_n k, 1)) (hj : (k : Nat) = j) : zOk g i pc (zsl4 i.2.2.1 j 1) := by
  intro X hE d Y rec hrec lo sk mem κ ρ y hf
  left
  unfold zsl4 at hf
  dsimp only at hf
  split at hf
  · next x r =>
    cases hb : Nat.ble (j + 2) i.2.2.1 with
    | false => rw [hb] at hf; cases hf
    | true =>
      rw [hb] at hf
      refine ⟨(pc + 1, zl2 lo j (.long x), r, mem), hf, zle.rf, ?_⟩
      intro n0 sl0 p e R s m args below meth c hC _ _ Q hW H locs ls h1 h2 hP hS hl
      exact lv_lstore_n hC.1 hC.2.1 hd hj hl (by have := Nat.le_of_ble_eq_true hb; omega) (zl2_m (zH X) (zx X) lo j (.long x)) (fun ls' hl' => hW H locs ls' h1 h2 hP hS hl')
  · cases hf
theorem ok_lstore {j : Nat} (hd : decode i.2.1 pc = .ok (.lstore j, 2)) : zOk g i pc (zsl4 i.2.2.1 j 2) := by
  intro X hE d Y rec hrec lo sk mem κ ρ y hf
  left
  unfold zsl4 at hf
  dsimp only at hf
  split at hf
  · next x r =>
    cases hb : Nat.ble (j + 2) i.2.2.1 with
    | false => rw [hb] at hf; cases hf
    | true =>
      rw [hb] at hf
      refine ⟨(pc + 2, zl2 lo j (.long x), r, mem), hf, zle.rf, ?_⟩
      intro n0 sl0 p e R s m args below meth c hC _ _ Q hW H locs ls h1 h2 hP hS hl
      exact lv_lstore hC.1 hC.2.1 hd hl (by have := Nat.le_of_ble_eq_true hb; omega) (zl2_m (zH X) (zx X) lo j (.long x)) (fun ls' hl' => hW H locs ls' h1 h2 hP hS hl')
  · cases hf
noncomputable def zsa4 (nL k : Nat) (len : Nat) : zF := fun _ _ st κ _ => match st with
  | (pc, lo, sk, mem) => match sk with
  | .ref x :: r => Bool.rec none (κ (pc + len, zl1 lo k (.ref x), r, mem)) (Nat.ble (k + 1) nL)
  | _ => none
theorem ok_astore_n {k : Fin 4} {j : Nat} (hd : decode i.2.1 pc = .ok (.astore_n k, 1)) (hj : (k : Nat) = j) : zOk g i pc (zsa4 i.2.2.1 j 1) := by
  intro X hE d Y rec hrec lo sk mem κ ρ y hf
  left
  unfold zsa4 at hf
  dsimp only at hf
  split at hf
  · next x r =>
    cases hb : Nat.ble (j + 1) i.2.2.1 with
    | false => rw [hb] at hf; cases hf
    | true =>
      rw [hb] at hf
      refine ⟨(pc + 1, zl1 lo j (.ref x), r, mem), hf, zle.rf, ?_⟩
      intro n0 sl0 p e R s m args below meth c hC _ _ Q hW H locs ls h1 h2 hP hS hl
      exact lv_astore_n hC.1 hC.2.1 hd hj hl (by have := Nat.le_of_ble_eq_true hb; omega) (zl1_m (zH X) (zx X) lo j (.ref x)) (fun ls' hl' => hW H locs ls' h1 h2 hP hS hl')
  · cases hf
theorem ok_astore {j : Nat} (hd : decode i.2.1 pc = .ok (.astore j, 2)) : zOk g i pc (zsa4 i.2.2.1 j 2) := by
  intro X hE d Y rec hrec lo sk mem κ ρ y hf
  left
  unfold zsa4 at hf
  dsimp only at hf
  split at hf
  · next x r =>
    cases hb : Nat.ble (j + 1) i.2.2.1 with
    | false => rw [hb] at hf; cases hf
    | true =>
      rw [hb] at hf
      refine ⟨(pc + 2, zl1 lo j (.ref x), r, mem), hf, zle.rf, ?_⟩
      intro n0 sl0 p e R s m args below meth c hC _ _ Q hW H locs ls h1 h2 hP hS hl
      exact lv_astore hC.1 hC.2.1 hd hl (by have := Nat.le_of_ble_eq_true hb; omega) (zl1_m (zH X) (zx X) lo j (.ref x)) (fun ls' hl' => hW H locs ls' h1 h2 hP hS hl')
  · cases hf
noncomputable def zin4 (nL k : Nat) (n : Int32) : zF := fun _ _ st κ _ => match st with
  | (pc, lo, sk, mem) => match zlg lo k with
  | some (.int x) => Bool.rec none (κ (pc + 3, zl1 lo k (.int (x + n)), sk, mem)) (Nat.ble (k + 1) nL)
  | _ => none
theorem ok_iinc {j : Nat} {n : Int} {v : Int32} (hd : decode i.2.1 pc = .ok (.iinc j n, 3)) (hv : Int32.ofInt n = v) : zOk g i pc (zin4 i.2.2.1 j v) := by
  intro X hE d Y rec hrec lo sk mem κ ρ y hf
  left
  subst hv
  unfold zin4 at hf
  dsimp only at hf
  split at hf
  · next x hg =>
    cases hb : Nat.ble (j + 1) i.2.2.1 with
    | false => rw [hb] at hf; cases hf
    | true =>
      rw [hb] at hf
      refine ⟨(pc + 3, zl1 lo j (.int (x + Int32.ofInt n)), sk, mem), hf, zle.rf, ?_⟩
      intro n0 sl0 p e R s m args below meth c hC _ _ Q hW H locs ls h1 h2 hP hS hl
      obtain ⟨k, hk⟩ := List.getElem?_of_mem (List.mem_map.mpr ⟨(j, Value.int x), zlg_mem lo hg, rfl⟩ : (j, Value.int x) ∈ zlm (zH X) (zx X) lo)
      exact lv_iinc hC.1 hC.2.1 hd hl hk rfl (by have := Nat.le_of_ble_eq_true hb; omega) (zl1_m (zH X) (zx X) lo j (.int (x + Int32.ofInt n))) (fun ls' hl' => hW H locs ls' h1 h2 hP hS hl')
  · cases hf
/-! the size of the heap, by the count of new cells -/
theorem z_size {p : Program} {l : Launch} {e : Env} {R : Room} {s : State} {m : MethodId} {args : Array Value} {below : List Frame} {meth : Method} {c : Code} {H : Heap} {locs : List Loc} {cells slots : Nat} {Q : State → Prop} {f : JFrame} (k : H.size ≤ s.heap.size + cells → W p l e R s m args below meth c H locs cells slots Q f) : W p l e R s m args below meth c H locs cells slots Q f :=
  fun T hT X => k (by rw [← hT]; exact X.heapSize) T hT X
theorem z_ge {X : zX} {cl : List vw_C} {mem : zM} {H H0 : Heap} {n0 : Nat} {locs : List Loc} (hP : va_P (zD X) cl (zWs X mem) H) (hS : va_S (fun q => zH X ≤ q) H0 H locs) (h0 : H0.size = zH X + n0) (h1 : n0 ≤ mem.length) : zH X + mem.length ≤ H.size := by
  have hz := hS.1
  rcases Nat.eq_zero_or_pos mem.length with h | h
  · omega
  · obtain ⟨c, hc⟩ : ∃ c, mem[mem.length - 1]? = some c := ⟨_, List.getElem?_eq_getElem (by omega)⟩
    have := (hP _ _ (zws_at (h0 := zH X) (x0 := zx X) (kA := zK X) hc)).lt
    simp only at this
    omega
/-! fields -/
def zgf (ci k : Nat) : zF := fun _ _ st κ _ => match st with
  | (pc, lo, sk, mem) => match sk with
  | .ref a :: r => match zat mem a with
    | some (.inr o) => match o.2[k]? with
      | some v => bif Nat.beq o.1 ci then κ (pc + 3, lo, v :: r, mem) else none
      | none => none
    | _ => none
  | _ => none
theorem ok_getf {ci k N n : Nat} {ref C : String} {T : u_T} (hc : (zCl g)[ci]? = some (C, T, N)) (hk : k < N) (hin : ∀ w ∈ u_ws C T N, w ∈ zTb g) (hr : ref = (T k).1) (hw : Cond.fieldLink i.1.cls n ref (T k).2.1 (T k).2.2.1 ∈ zTb g) (hd : decode i.2.1 pc = .ok (.getfield n, 3)) : zOk g i pc (zgf ci k) := by
  intro X hE d Y rec hrec lo sk mem κ ρ y hf
  left
  unfold zgf at hf
  dsimp only at hf
  split at hf
  · next a r =>
    split at hf
    · next o ho =>
      split at hf
      · next v hv =>
        cases hb : Nat.beq o.1 ci with
        | false => rw [hb] at hf; cases hf
        | true =>
          rw [hb] at hf
          have hci := Nat.eq_of_beq_eq_true hb
          refine ⟨(pc + 3, lo, v :: r, mem), hf, zle.rf, ?_⟩
          intro n0 sl0 p e R s m args below meth c hC _ _ Q hW H locs ls h1 h2 hP hS hl
          rw [zat_eq] at ho
          have he : (zWs X mem)[a]? = some (zH X + a, .inr (ci, o.2.map (zU X))) := by rw [zws_at ho, ← hci]; rfl
          exact va_get hC.1 hC.2.1 hC.2.2.2.2.1 hin hC.2.2.2.1 hC.2.2.2.2.2.1 hP a he hc k hk (hC.2.2.2.2.1 _ hw) (fun x h => by rw [hr]; exact h) (v := zU X v) (by rw [List.getElem?_map, hv]; rfl) hd (hW H locs ls h1 h2 hP hS hl)
      · cases hf
    · cases hf
  · cases hf
/-- what may stand in a field of a type -/
def zfit (ty : FieldType) (v : Value) : Bool := match ty, v with
  | .int, .int _ => true
  | .long, .long _ => true
  | .boolean, .int x => Bool.or (decide (x = 0)) (decide (x = 1))
  | .object _, .ref _ => true
  | .array _, .ref _ => true
  | _, _ => false
theorem zfit_s {X : zX} {ty : FieldType} {v : Value} (h : zfit ty v = true) : narrow ty (zU X v) = zU X v ∧ fits ty (zU X v) = true := by
  cases ty <;> cases v <;> first | (exact absurd h (by decide)) | (cases h; done) | (exact ⟨rfl, rfl⟩) | skip
  next x =>
    simp only [zfit, Bool.or_eq_true, decide_eq_true_eq] at h
    rcases h with h | h <;> subst h <;> exact ⟨rfl, rfl⟩
noncomputable def zpf (ci k : Nat) (ty : FieldType) : zF := fun _ _ st κ _ => match st with
  | (pc, lo, sk, mem) => match sk with
  | v :: .ref a :: r => match zat mem a with
    | some (.inr o) => Bool.rec none (κ (pc + 3, lo, r, mem.set a (.inr (o.1, o.2.set k v)))) (Bool.and (Nat.beq o.1 ci) (Bool.and (Nat.ble (k + 1) o.2.length) (zfit ty v)))
    | _ => none
  | _ => none
theorem zpf_s {X : zX} {mem : zM} {a k : Nat} {o : Nat × List Value} {v : Value} : (zWs X mem).set a (zH X + a, .inr (o.1, (o.2.map (zU X)).set k (zU X v))) = zWs X (mem.set a (.inr (o.1, o.2.set k v))) := by
  show _ = zws (zH X) (zx X) (zK X) 0 (mem.set a (.inr (o.1, o.2.set k v)))
  rw [zws_set]
  have e1 : zue (zH X) (zx X) (zK X) (.inr (o.1, o.2.set k v)) = .inr (o.1, (o.2.map (zU X)).set k (zU X v)) := by
    show Sum.inr (o.1, (o.2.set k v).map (zU X)) = _
    rw [List.map_set]
  rw [e1]
  simp
theorem ok_putf {ci k N n : Nat} {ref C : String} {T : u_T} {ty : FieldType} (fin : Bool) (ty0 : Nat → FieldType) (hty : ∀ k, k < N → parseFieldDescriptor (T k).2.2.1 = some (ty0 k)) (hnm : ∀ a, a < N → ∀ b, b < N → a ≠ b → (T a).2.1 ≠ (T b).2.1) (hc : (zCl g)[ci]? = some (C, T, N)) (hk : k < N) (hin : ∀ w ∈ u_ws C T N, w ∈ zTb g) (hr : ref = (T k).1) (hw : Cond.fieldLink i.1.cls n ref (T k).2.1 (T k).2.2.1 ∈ zTb g) (hfin : (T k).2.2.2 = fin) (hfi : fin = true → i.1.name = "<init>" ∧ (T k).1 = i.1.cls) (hd0 : ty0 k = ty) (hd : decode i.2.1 pc = .ok (.putfield n, 3)) : zOk g i pc (zpf ci k ty) := by
  intro X hE d Y rec hrec lo sk mem κ ρ y hf
  left
  unfold zpf at hf
  dsimp only at hf
  split at hf
  · next v a r =>
    split at hf
    · next o ho =>
      cases hb : Bool.and (Nat.beq o.1 ci) (Bool.and (Nat.ble (k + 1) o.2.length) (zfit ty v)) with
      | false => rw [hb] at hf; cases hf
      | true =>
        rw [hb] at hf
        obtain ⟨b1, b2⟩ := (Bool.and_eq_true _ _).mp hb
        obtain ⟨b2, b3⟩ := (Bool.and_eq_true _ _).mp b2
        have hci := Nat.eq_of_beq_eq_true b1
        have hlen := Nat.le_of_ble_eq_true b2
        have hft := zfit_s (X := X) b3
        rw [zat_eq] at ho
        refine ⟨(pc + 3, lo, r, mem.set a (.inr (o.1, o.2.set k v))), hf, zle.set ho (by simp [zsz]), ?_⟩
        intro n0 sl0 p e R s m args below meth c hC _ _ Q hW H locs ls h1 h2 hP hS hl
        have hsl : zsl (mem.set a (.inr (o.1, o.2.set k v))) = zsl mem := zsl_set (by simp [zsz]) mem a ho
        have hle : (mem.set a (.inr (o.1, o.2.set k v))).length = mem.length := by simp
        have he : (zWs X mem)[a]? = some (zH X + a, .inr (ci, o.2.map (zU X))) := by rw [zws_at ho, ← hci]; rfl
        have hpd : parseFieldDescriptor (T k).2.2.1 = some ty := by rw [hty k hk, hd0]
        have hW2 : ∀ (H1 : Heap) (locs1 : List Loc), va_P (zD X) (zCl g) ((zWs X mem).set a (zH X + a, .inr (ci, (o.2.map (zU X)).set k (zU X v)))) H1 → va_S (fun q => zH X ≤ q) s.heap H1 locs1 → W p (zL X) e R s m args below meth c H1 locs1 (mem.length - n0) (zsl mem - sl0) Q (F0 m (pc + 3) ls (r.map (zU X))) := by
          intro H1 locs1 q1 q2
          rw [← hci, zpf_s] at q1
          have := hW H1 locs1 ls (by show n0 ≤ (mem.set a (.inr (o.1, o.2.set k v))).length; rw [hle]; exact h1) (by show sl0 ≤ zsl (mem.set a (.inr (o.1, o.2.set k v))); rw [hsl]; exact h2) q1 q2 hl
          simp only [hle, hsl] at this
          exact this
        cases hff : fin with
        | false =>
          rw [hff] at hfin
          exact va_put hC.1 hC.2.1 hC.2.2.2.2.1 hin ty0 hty hnm hC.2.2.2.1 hC.2.2.2.2.2.1 hP (zws_D _ _ _ _) hS a he hc k hk (hC.2.2.2.2.1 _ hw) (fun x h => by rw [hr]; exact h) hfin hpd hft.1 hft.2 (by simp; omega) hd (fun H1 locs1 q1 _ q2 => hW2 H1 locs1 q1 q2)
        | true =>
          rw [hff] at hfin
          obtain ⟨hi1, hi2⟩ := hfi hff
          exact va_putF hC.1 hC.2.1 hC.2.2.2.2.1 hin ty0 hty hnm hC.2.2.2.1 hC.2.2.2.2.2.1 hP (zws_D _ _ _ _) hS a he hc k hk (hC.2.2.2.2.1 _ hw) (fun x h => by rw [hr]; exact h) hfin (hC.2.2.2.2.2.2.2.2.2.2.1 hi1) hi2 hpd hft.1 hft.2 (by simp; omega) hd (fun H1 locs1 q1 _ q2 => hW2 H1 locs1 q1 q2)
    · cases hf
  · cases hf
/-! arrays -/
noncomputable def zix (x : Int32) (n : Nat) : Bool := Bool.and (!decide (x < 0)) (Nat.ble (x.toNatClampNeg + 1) n)
theorem zix_s {x : Int32} {n : Nat} (h : zix x n = true) : vp_in x n := by
  obtain ⟨h1, h2⟩ := (Bool.and_eq_true _ _).mp h
  have h2 := Nat.le_of_ble_eq_true h2
  simp only [Bool.not_eq_true', decide_eq_false_iff_not] at h1
  rintro (q | q)
  · exact h1 q
  · omega
def zlt {α : Type} : List α → Nat → Bool
  | [], _ => false
  | _ :: _, 0 => true
  | _ :: r, k + 1 => zlt r k
theorem zlt_s {α : Type} : ∀ (l : List α) (k : Nat), zlt l k = true → k < l.length := by
  intro l
  induction l with
  | nil => intro k h; cases h
  | cons a r ih =>
    intro k h
    cases k with
    | zero => simp
    | succ k =>
      have := ih k h
      simp only [List.length_cons]
      omega
noncomputable def zixl {α : Type} (x : Int32) (l : List α) : Bool := Bool.and (!decide (x < 0)) (zlt l x.toNatClampNeg)
theorem zixl_s {α : Type} {x : Int32} {l : List α} (h : zixl x l = true) : vp_in x l.length := by
  obtain ⟨h1, h2⟩ := (Bool.and_eq_true _ _).mp h
  have h2 := zlt_s _ _ h2
  simp only [Bool.not_eq_true', decide_eq_false_iff_not] at h1
  rintro (q | q)
  · exact h1 q
  · omega
theorem zwa_i {X : zX} {mem : zM} {a t : Nat} {l : List Int32} (ho : mem[a]? = some (.inl (t, .inl l))) : (zWs X mem)[a]? = some (zH X + a, .inl (zK X t, l.length, .inl (fun j => l.getD j 0))) := zws_at ho
theorem zwa_l {X : zX} {mem : zM} {a t : Nat} {l : List Int64} (ho : mem[a]? = some (.inl (t, .inr (.inl l)))) : (zWs X mem)[a]? = some (zH X + a, .inl (zK X t, l.length, .inr (.inl (fun j => l.getD j 0)))) := zws_at ho
theorem zwa_q {X : zX} {mem : zM} {a t : Nat} {l : List (Option Nat)} (ho : mem[a]? = some (.inl (t, .inr (.inr l)))) : (zWs X mem)[a]? = some (zH X + a, .inl (zK X t, l.length, .inr (.inr (.inr (.inr (fun j => (l.getD j none).map (fun k => zH X + k))))))) := zws_at ho
theorem zix_lt {x : Int32} {n : Nat} (h : vp_in x n) : x.toNatClampNeg < n := Nat.not_le.mp fun q => h (Or.inr q)
/-- an array of ints (booleans: kind t) read -/
noncomputable def zal (t : Nat) : zF := fun _ _ st κ _ => match st with
  | (pc, lo, sk, mem) => match sk with
  | .int x :: .ref a :: r => match zat mem a with
    | some (.inl (t', .inl f)) => Bool.rec none (κ (pc + 1, lo, .int (f.getD x.toNatClampNeg 0) :: r, mem)) (Bool.and (Nat.beq t' t) (zixl x f))
    | _ => none
  | _ => none
noncomputable def zll (t : Nat) : zF := fun _ _ st κ _ => match st with
  | (pc, lo, sk, mem) => match sk with
  | .int x :: .ref a :: r => match zat mem a with
    | some (.inl (t', .inr (.inl f))) => Bool.rec none (κ (pc + 1, lo, .long (f.getD x.toNatClampNeg 0) :: r, mem)) (Bool.and (Nat.beq t' t) (zixl x f))
    | _ => none
  | _ => none
noncomputable def zaq (t : Nat) : zF := fun _ _ st κ _ => match st with
  | (pc, lo, sk, mem) => match sk with
  | .int x :: .ref a :: r => match zat mem a with
    | some (.inl (t', .inr (.inr f))) => Bool.rec none (match f.getD x.toNatClampNeg none with
      | some q => κ (pc + 1, lo, .ref q :: r, mem)
      | none => none) (Bool.and (Nat.beq t' t) (zixl x f))
    | _ => none
  | _ => none
theorem ok_iaload {t : Nat} (ht : (zTl g)[t]? = some .int) (hd : decode i.2.1 pc = .ok (.iaload, 1)) : zOk g i pc (zal t) := by
  intro X hE d Y rec hrec lo sk mem κ ρ y hf
  left
  unfold zal at hf
  dsimp only at hf
  split at hf
  · next x a r =>
    split at hf
    · next t' f ho =>
      cases hb : Bool.and (Nat.beq t' t) (zixl x f) with
      | false => rw [hb] at hf; cases hf
      | true =>
        rw [hb] at hf
        obtain ⟨b1, b2⟩ := (Bool.and_eq_true _ _).mp hb
        have hci := Nat.eq_of_beq_eq_true b1
        subst hci
        refine ⟨(pc + 1, lo, .int (f.getD x.toNatClampNeg 0) :: r, mem), hf, zle.rf, ?_⟩
        intro n0 sl0 p e R s m args below meth c hC _ _ Q hW H locs ls h1 h2 hP hS hl
        rw [zat_eq] at ho
        exact va_iald hC.1 hC.2.1 hC.2.2.2.2.2.1 hP a t' (zwa_i ho) (zTy_at ht) (zixl_s b2) hd (hW H locs ls h1 h2 hP hS hl)
    · cases hf
  · cases hf
theorem ok_zaload {t : Nat} (ht : (zTl g)[t]? = some .boolean) (hd : decode i.2.1 pc = .ok (.baload, 1)) : zOk g i pc (zal t) := by
  intro X hE d Y rec hrec lo sk mem κ ρ y hf
  left
  unfold zal at hf
  dsimp only at hf
  split at hf
  · next x a r =>
    split at hf
    · next t' f ho =>
      cases hb : Bool.and (Nat.beq t' t) (zixl x f) with
      | false => rw [hb] at hf; cases hf
      | true =>
        rw [hb] at hf
        obtain ⟨b1, b2⟩ := (Bool.and_eq_true _ _).mp hb
        have hci := Nat.eq_of_beq_eq_true b1
        subst hci
        refine ⟨(pc + 1, lo, .int (f.getD x.toNatClampNeg 0) :: r, mem), hf, zle.rf, ?_⟩
        intro n0 sl0 p e R s m args below meth c hC _ _ Q hW H locs ls h1 h2 hP hS hl
        rw [zat_eq] at ho
        exact va_zald hC.1 hC.2.1 hC.2.2.2.2.2.1 hP a t' (zwa_i ho) (zTy_at ht) (zixl_s b2) hd (hW H locs ls h1 h2 hP hS hl)
    · cases hf
  · cases hf
theorem ok_laload {t : Nat} (ht : (zTl g)[t]? = some .long) (hd : decode i.2.1 pc = .ok (.laload, 1)) : zOk g i pc (zll t) := by
  intro X hE d Y rec hrec lo sk mem κ ρ y hf
  left
  unfold zll at hf
  dsimp only at hf
  split at hf
  · next x a r =>
    split at hf
    · next t' f ho =>
      cases hb : Bool.and (Nat.beq t' t) (zixl x f) with
      | false => rw [hb] at hf; cases hf
      | true =>
        rw [hb] at hf
        obtain ⟨b1, b2⟩ := (Bool.and_eq_true _ _).mp hb
        have hci := Nat.eq_of_beq_eq_true b1
        subst hci
        refine ⟨(pc + 1, lo, .long (f.getD x.toNatClampNeg 0) :: r, mem), hf, zle.rf, ?_⟩
        intro n0 sl0 p e R s m args below meth c hC _ _ Q hW H locs ls h1 h2 hP hS hl
        rw [zat_eq] at ho
        exact va_lald hC.1 hC.2.1 hC.2.2.2.2.2.1 hP a t' (zwa_l ho) (zTy_at ht) (zixl_s b2) hd (hW H locs ls h1 h2 hP hS hl)
    · cases hf
  · cases hf
theorem ok_aaload {t : Nat} {C : String} (ht : (zTl g)[t]? = some (.object C)) (hd : decode i.2.1 pc = .ok (.aaload, 1)) : zOk g i pc (zaq t) := by
  intro X hE d Y rec hrec lo sk mem κ ρ y hf
  left
  unfold zaq at hf
  dsimp only at hf
  split at hf
  · next x a r =>
    split at hf
    · next t' f ho =>
      cases hb : Bool.and (Nat.beq t' t) (zixl x f) with
      | false => rw [hb] at hf; cases hf
      | true =>
        rw [hb] at hf
        obtain ⟨b1, b2⟩ := (Bool.and_eq_true _ _).mp hb
        have hci := Nat.eq_of_beq_eq_true b1
        subst hci
        dsimp only at hf
        split at hf
        · next q hq =>
          refine ⟨(pc + 1, lo, .ref q :: r, mem), hf, zle.rf, ?_⟩
          intro n0 sl0 p e R s m args below meth c hC _ _ Q hW H locs ls h1 h2 hP hS hl
          rw [zat_eq] at ho
          refine va_aldq hC.1 hC.2.1 hC.2.2.2.2.2.1 hP a t' (zwa_q ho) (zTy_at ht) (zixl_s b2) hd ?_
          have e1 : va_rf ((f.getD x.toNatClampNeg none).map (fun k => zH X + k)) = .ref (zH X + q) := by rw [hq]; rfl
          rw [e1]
          exact hW H locs ls h1 h2 hP hS hl
        · cases hf
    · cases hf
  · cases hf
/-- the length -/
def zle4 (t : Nat) : zF := fun _ _ st κ _ => match st with
  | (pc, lo, sk, mem) => match sk with
  | .ref a :: r => match zat mem a with
    | some (.inl o) => bif Nat.beq o.1 t then κ (pc + 1, lo, .int (Int32.ofNat (zaz o.2)) :: r, mem) else none
    | _ => none
  | _ => none
theorem ok_alen {t : Nat} {ty : FieldType} (ht : (zTl g)[t]? = some ty) (hd : decode i.2.1 pc = .ok (.arraylength, 1)) : zOk g i pc (zle4 t) := by
  intro X hE d Y rec hrec lo sk mem κ ρ y hf
  left
  unfold zle4 at hf
  dsimp only at hf
  split at hf
  · next a r =>
    split at hf
    · next o ho =>
      cases hb : Nat.beq o.1 t with
      | false => rw [hb] at hf; cases hf
      | true =>
        rw [hb] at hf
        have hci := Nat.eq_of_beq_eq_true hb
        refine ⟨(pc + 1, lo, .int (Int32.ofNat (zaz o.2)) :: r, mem), hf, zle.rf, ?_⟩
        intro n0 sl0 p e R s m args below meth c hC _ _ Q hW H locs ls h1 h2 hP hS hl
        rw [zat_eq] at ho
        have he : (zWs X mem)[a]? = some (zH X + a, .inl (zK X t, zua (zH X) o.2)) := by rw [zws_at ho, ← hci]; rfl
        exact va_alen hC.1 hC.2.1 hC.2.2.2.2.2.1 hP a t he (zTy_at ht) (v := Int32.ofNat (zaz o.2)) (by rw [zua_1]) hd (hW H locs ls h1 h2 hP hS hl)
    · cases hf
  · cases hf
noncomputable def zas (t : Nat) : zF := fun _ _ st κ _ => match st with
  | (pc, lo, sk, mem) => match sk with
  | .int x :: .int j :: .ref a :: r => match zat mem a with
    | some (.inl (t', .inl f)) => Bool.rec none (κ (pc + 1, lo, r, mem.set a (.inl (t', .inl (f.set j.toNatClampNeg x))))) (Bool.and (Nat.beq t' t) (Bool.and (zixl j f) true))
    | _ => none
  | _ => none
theorem ok_iastore {t : Nat} (ht : (zTl g)[t]? = some .int) (hd : decode i.2.1 pc = .ok (.iastore, 1)) : zOk g i pc (zas t) := by
  intro X hE d Y rec hrec lo sk mem κ ρ y hf
  left
  unfold zas at hf
  dsimp only at hf
  split at hf
  · next x j a r =>
    split at hf
    · next t' f ho =>
      cases hb : Bool.and (Nat.beq t' t) (Bool.and (zixl j f) true) with
      | false => rw [hb] at hf; cases hf
      | true =>
        rw [hb] at hf
        obtain ⟨b1, b2⟩ := (Bool.and_eq_true _ _).mp hb
        obtain ⟨b2, b3⟩ := (Bool.and_eq_true _ _).mp b2
        have hci := Nat.eq_of_beq_eq_true b1
        subst hci
        rw [zat_eq] at ho
        refine ⟨(pc + 1, lo, r, mem.set a (.inl (t', .inl (f.set j.toNatClampNeg x)))), hf, zle.set ho (by simp [zsz, zaz]), ?_⟩
        intro n0 sl0 p e R s m args below meth c hC _ _ Q hW H locs ls h1 h2 hP hS hl
        have hsl : zsl (mem.set a (.inl (t', .inl (f.set j.toNatClampNeg x)))) = zsl mem := zsl_set (c := .inl (t', .inl f)) (c' := .inl (t', .inl (f.set j.toNatClampNeg x))) (by simp [zsz, zaz]) mem a ho
        have hle : (mem.set a (.inl (t', .inl (f.set j.toNatClampNeg x)))).length = mem.length := by simp
        refine va_iast hC.1 hC.2.1 hC.2.2.2.2.2.1 hP (zws_D _ _ _ _) hS a t' (zwa_i ho) (zTy_at ht) (zixl_s b2) hd (fun H1 locs1 q1 _ q2 => ?_)
        have e1 : (zWs X mem).set a (zH X + a, .inl (zK X t', f.length, .inl (upd (fun j => f.getD j 0) j.toNatClampNeg x))) = zWs X (mem.set a (.inl (t', .inl (f.set j.toNatClampNeg x)))) := by
          show _ = zws (zH X) (zx X) (zK X) 0 (mem.set a (.inl (t', .inl (f.set j.toNatClampNeg x))))
          rw [zws_set, Nat.zero_add]
          simp only [zue, zua, List.length_set, z_gset _ _ _ _ (zix_lt (zixl_s b2))]
          rfl
        rw [e1] at q1
        have := hW H1 locs1 ls (by show n0 ≤ (mem.set a (.inl (t', .inl (f.set j.toNatClampNeg x)))).length; rw [hle]; exact h1) (by show sl0 ≤ zsl (mem.set a (.inl (t', .inl (f.set j.toNatClampNeg x)))); rw [hsl]; exact h2) q1 q2 hl
        simp only [hle, hsl] at this
        exact this
    · cases hf
  · cases hf
noncomputable def zzs (t : Nat) : zF := fun _ _ st κ _ => match st with
  | (pc, lo, sk, mem) => match sk with
  | .int x :: .int j :: .ref a :: r => match zat mem a with
    | some (.inl (t', .inl f)) => Bool.rec none (κ (pc + 1, lo, r, mem.set a (.inl (t', .inl (f.set j.toNatClampNeg (vp_nar .boolean x)))))) (Bool.and (Nat.beq t' t) (Bool.and (zixl j f) true))
    | _ => none
  | _ => none
theorem ok_zastore {t : Nat} (ht : (zTl g)[t]? = some .boolean) (hd : decode i.2.1 pc = .ok (.bastore, 1)) : zOk g i pc (zzs t) := by
  intro X hE d Y rec hrec lo sk mem κ ρ y hf
  left
  unfold zzs at hf
  dsimp only at hf
  split at hf
  · next x j a r =>
    split at hf
    · next t' f ho =>
      cases hb : Bool.and (Nat.beq t' t) (Bool.and (zixl j f) true) with
      | false => rw [hb] at hf; cases hf
      | true =>
        rw [hb] at hf
        obtain ⟨b1, b2⟩ := (Bool.and_eq_true _ _).mp hb
        obtain ⟨b2, b3⟩ := (Bool.and_eq_true _ _).mp b2
        have hci := Nat.eq_of_beq_eq_true b1
        subst hci
        rw [zat_eq] at ho
        refine ⟨(pc + 1, lo, r, mem.set a (.inl (t', .inl (f.set j.toNatClampNeg (vp_nar .boolean x))))), hf, zle.set ho (by simp [zsz, zaz]), ?_⟩
        intro n0 sl0 p e R s m args below meth c hC _ _ Q hW H locs ls h1 h2 hP hS hl
        have hsl : zsl (mem.set a (.inl (t', .inl (f.set j.toNatClampNeg (vp_nar .boolean x))))) = zsl mem := zsl_set (c := .inl (t', .inl f)) (c' := .inl (t', .inl (f.set j.toNatClampNeg (vp_nar .boolean x)))) (by simp [zsz, zaz]) mem a ho
        have hle : (mem.set a (.inl (t', .inl (f.set j.toNatClampNeg (vp_nar .boolean x))))).length = mem.length := by simp
        refine va_zast hC.1 hC.2.1 hC.2.2.2.2.2.1 hP (zws_D _ _ _ _) hS a t' (zwa_i ho) (zTy_at ht) (zixl_s b2) hd (fun H1 locs1 q1 _ q2 => ?_)
        have e1 : (zWs X mem).set a (zH X + a, .inl (zK X t', f.length, .inl (upd (fun j => f.getD j 0) j.toNatClampNeg (vp_nar .boolean x)))) = zWs X (mem.set a (.inl (t', .inl (f.set j.toNatClampNeg (vp_nar .boolean x))))) := by
          show _ = zws (zH X) (zx X) (zK X) 0 (mem.set a (.inl (t', .inl (f.set j.toNatClampNeg (vp_nar .boolean x)))))
          rw [zws_set, Nat.zero_add]
          simp only [zue, zua, List.length_set, z_gset _ _ _ _ (zix_lt (zixl_s b2))]
          rfl
        rw [e1] at q1
        have := hW H1 locs1 ls (by show n0 ≤ (mem.set a (.inl (t', .inl (f.set j.toNatClampNeg (vp_nar .boolean x))))).length; rw [hle]; exact h1) (by show sl0 ≤ zsl (mem.set a (.inl (t', .inl (f.set j.toNatClampNeg (vp_nar .boolean x))))); rw [hsl]; exact h2) q1 q2 hl
        simp only [hle, hsl] at this
        exact this
    · cases hf
  · cases hf
noncomputable def zla (t : Nat) : zF := fun _ _ st κ _ => match st with
  | (pc, lo, sk, mem) => match sk with
  | .long x :: .int j :: .ref a :: r => match zat mem a with
    | some (.inl (t', .inr (.inl f))) => Bool.rec none (κ (pc + 1, lo, r, mem.set a (.inl (t', .inr (.inl (f.set j.toNatClampNeg x)))))) (Bool.and (Nat.beq t' t) (Bool.and (zixl j f) true))
    | _ => none
  | _ => none
theorem ok_lastore {t : Nat} (ht : (zTl g)[t]? = some .long) (hd : decode i.2.1 pc = .ok (.lastore, 1)) : zOk g i pc (zla t) := by
  intro X hE d Y rec hrec lo sk mem κ ρ y hf
  left
  unfold zla at hf
  dsimp only at hf
  split at hf
  · next x j a r =>
    split at hf
    · next t' f ho =>
      cases hb : Bool.and (Nat.beq t' t) (Bool.and (zixl j f) true) with
      | false => rw [hb] at hf; cases hf
      | true =>
        rw [hb] at hf
        obtain ⟨b1, b2⟩ := (Bool.and_eq_true _ _).mp hb
        obtain ⟨b2, b3⟩ := (Bool.and_eq_true _ _).mp b2
        have hci := Nat.eq_of_beq_eq_true b1
        subst hci
        rw [zat_eq] at ho
        refine ⟨(pc + 1, lo, r, mem.set a (.inl (t', .inr (.inl (f.set j.toNatClampNeg x))))), hf, zle.set ho (by simp [zsz, zaz]), ?_⟩
        intro n0 sl0 p e R s m args below meth c hC _ _ Q hW H locs ls h1 h2 hP hS hl
        have hsl : zsl (mem.set a (.inl (t', .inr (.inl (f.set j.toNatClampNeg x))))) = zsl mem := zsl_set (c := .inl (t', .inr (.inl f))) (c' := .inl (t', .inr (.inl (f.set j.toNatClampNeg x)))) (by simp [zsz, zaz]) mem a ho
        have hle : (mem.set a (.inl (t', .inr (.inl (f.set j.toNatClampNeg x))))).length = mem.length := by simp
        refine va_last hC.1 hC.2.1 hC.2.2.2.2.2.1 hP (zws_D _ _ _ _) hS a t' (zwa_l ho) (zTy_at ht) (zixl_s b2) hd (fun H1 locs1 q1 _ q2 => ?_)
        have e1 : (zWs X mem).set a (zH X + a, .inl (zK X t', f.length, .inr (.inl (vp_updL (fun j => f.getD j 0) j.toNatClampNeg x)))) = zWs X (mem.set a (.inl (t', .inr (.inl (f.set j.toNatClampNeg x))))) := by
          show _ = zws (zH X) (zx X) (zK X) 0 (mem.set a (.inl (t', .inr (.inl (f.set j.toNatClampNeg x)))))
          rw [zws_set, Nat.zero_add]
          simp only [zue, zua, List.length_set, z_gset _ _ _ _ (zix_lt (zixl_s b2))]
          rfl
        rw [e1] at q1
        have := hW H1 locs1 ls (by show n0 ≤ (mem.set a (.inl (t', .inr (.inl (f.set j.toNatClampNeg x))))).length; rw [hle]; exact h1) (by show sl0 ≤ zsl (mem.set a (.inl (t', .inr (.inl (f.set j.toNatClampNeg x))))); rw [hsl]; exact h2) q1 q2 hl
        simp only [hle, hsl] at this
        exact this
    · cases hf
  · cases hf
noncomputable def zsq (t ci : Nat) : zF := fun _ _ st κ _ => match st with
  | (pc, lo, sk, mem) => match sk with
  | .ref v :: .int j :: .ref a :: r => match zat mem a with
    | some (.inl (t', .inr (.inr f))) => match zat mem v with
      | some (.inr o) => Bool.rec none (κ (pc + 1, lo, r, mem.set a (.inl (t', .inr (.inr (f.set j.toNatClampNeg (some v))))))) (Bool.and (Nat.beq t' t) (Bool.and (zixl j f) (Nat.beq o.1 ci)))
      | _ => none
    | _ => none
  | _ => none
theorem ok_aastore {t ci : Nat} {q : vw_C} (ht : (zTl g)[t]? = some (.object q.1)) (hc : (zCl g)[ci]? = some q) (hd : decode i.2.1 pc = .ok (.aastore, 1)) : zOk g i pc (zsq t ci) := by
  intro X hE d Y rec hrec lo sk mem κ ρ y hf
  left
  unfold zsq at hf
  dsimp only at hf
  split at hf
  · next v j a r =>
    split at hf
    · next t' f ho =>
      split at hf
      · next o hv =>
        cases hb : Bool.and (Nat.beq t' t) (Bool.and (zixl j f) (Nat.beq o.1 ci)) with
        | false => rw [hb] at hf; cases hf
        | true =>
          rw [hb] at hf
          obtain ⟨b1, b2⟩ := (Bool.and_eq_true _ _).mp hb
          obtain ⟨b2, b3⟩ := (Bool.and_eq_true _ _).mp b2
          have hci := Nat.eq_of_beq_eq_true b1
          have hco := Nat.eq_of_beq_eq_true b3
          subst hci
          rw [zat_eq] at ho hv
          refine ⟨(pc + 1, lo, r, mem.set a (.inl (t', .inr (.inr (f.set j.toNatClampNeg (some v)))))), hf, zle.set ho (by simp [zsz, zaz]), ?_⟩
          intro n0 sl0 p e R s m args below meth c hC _ _ Q hW H locs ls h1 h2 hP hS hl
          have hsl : zsl (mem.set a (.inl (t', .inr (.inr (f.set j.toNatClampNeg (some v)))))) = zsl mem := zsl_set (c := .inl (t', .inr (.inr f))) (c' := .inl (t', .inr (.inr (f.set j.toNatClampNeg (some v))))) (by simp [zsz, zaz]) mem a ho
          have hle : (mem.set a (.inl (t', .inr (.inr (f.set j.toNatClampNeg (some v)))))).length = mem.length := by simp
          have hev : (zWs X mem)[v]? = some (zH X + v, .inr (ci, o.2.map (zU X))) := by rw [zws_at hv, ← hco]; rfl
          refine va_astq hC.1 hC.2.1 hC.2.2.2.2.2.1 hP (zws_D _ _ _ _) hS a t' v ci (zwa_q ho) (zTy_at ht) hev hc (zixl_s b2) hd (fun H1 locs1 q1 _ q2 => ?_)
          have e1 : (zWs X mem).set a (zH X + a, .inl (zK X t', f.length, .inr (.inr (.inr (.inr (va_up (fun j => (f.getD j none).map (fun k => zH X + k)) j.toNatClampNeg (some (zH X + v)))))))) = zWs X (mem.set a (.inl (t', .inr (.inr (f.set j.toNatClampNeg (some v)))))) := by
            show _ = zws (zH X) (zx X) (zK X) 0 (mem.set a (.inl (t', .inr (.inr (f.set j.toNatClampNeg (some v))))))
            rw [zws_set, Nat.zero_add]
            have e2 : va_up (fun j => (f.getD j none).map (fun k => zH X + k)) j.toNatClampNeg (some (zH X + v)) = fun q => ((f.set j.toNatClampNeg (some v)).getD q none).map (fun k => zH X + k) := by
              funext q
              have e3 := congrFun (z_gset f j.toNatClampNeg (some v) none (zix_lt (zixl_s b2))) q
              rw [e3]
              unfold va_up
              split <;> rfl
            simp only [zue, zua, List.length_set]
            rw [e2]
          rw [e1] at q1
          have := hW H1 locs1 ls (by show n0 ≤ (mem.set a (.inl (t', .inr (.inr (f.set j.toNatClampNeg (some v)))))).length; rw [hle]; exact h1) (by show sl0 ≤ zsl (mem.set a (.inl (t', .inr (.inr (f.set j.toNatClampNeg (some v)))))); rw [hsl]; exact h2) q1 q2 hl
          simp only [hle, hsl] at this
          exact this
      · cases hf
    · cases hf
  · cases hf
/-! new cells -/
theorem z_push {X : zX} {mem : zM} {H : Heap} {q : Nat} {cl : List vw_C} {e : va_E} {e' : zE} (h : va_P (zD X) cl (zWs X mem ++ [(q, e)]) H) (hq : q = zH X + mem.length) (he : zue (zH X) (zx X) (zK X) e' = e) : va_P (zD X) cl (zWs X (mem ++ [e'])) H := by
  show va_P (zD X) cl (zws (zH X) (zx X) (zK X) 0 (mem ++ [e'])) H
  rw [zws_app, Nat.zero_add, he, ← hq]
  exact h
theorem z_new_at {X : zX} {cl : List vw_C} {mem : zM} {H : Heap} {q : Nat} {e : va_E} {H0 : Heap} {n0 : Nat} {locs : List Loc} (hP : va_P (zD X) cl (zWs X mem ++ [(q, e)]) H) (hD : va_D (fun x => zH X ≤ x) (zWs X mem ++ [(q, e)])) (hle : H.size ≤ zH X + mem.length + 1) : q = zH X + mem.length := by
  have hl : (zWs X mem).length = mem.length := by
    have : ∀ (mem : zM) (k : Nat), (zws (zH X) (zx X) (zK X) k mem).length = mem.length := by
      intro mem
      induction mem with
      | nil => intro k; rfl
      | cons a r ih => intro k; simp only [zws, List.length_cons, ih]
    exact this mem 0
  have h1 : (zWs X mem ++ [(q, e)])[mem.length]? = some (q, e) := by rw [← hl]; simp
  have h2 := (hP _ _ h1).lt
  have h3 := hD.2 _ _ h1
  simp only at h2 h3
  apply Classical.byContradiction
  intro hne
  have hlt : q - zH X < mem.length := by omega
  obtain ⟨c, hc⟩ : ∃ c, mem[q - zH X]? = some c := ⟨_, List.getElem?_eq_getElem hlt⟩
  have h4 := zws_at (h0 := zH X) (x0 := zx X) (kA := zK X) hc
  have h5 : (zWs X mem ++ [(q, e)])[q - zH X]? = some (zH X + (q - zH X), zue (zH X) (zx X) (zK X) c) := by
    rw [List.getElem?_append_left (by rw [hl]; exact hlt)]
    exact h4
  have := hD.1 _ _ _ _ h5 h1 (by simp only; omega)
  omega
/-- an object of class ci, its fields fs -/
def znw (ci : Nat) (fs : List Value) : zF := fun _ _ st κ _ => match st with
  | (pc, lo, sk, mem) => κ (pc + 3, lo, .ref mem.length :: sk, mem ++ [.inr (ci, fs)])
theorem ok_new {ci N n : Nat} {C : String} {T : u_T} {fs : List Value} (ty0 : Nat → FieldType) (hty : ∀ k, k < N → parseFieldDescriptor (T k).2.2.1 = some (ty0 k)) (hc : (zCl g)[ci]? = some (C, T, N)) (hin : ∀ w ∈ u_ws C T N, w ∈ zTb g) (hw : Cond.classLink i.1.cls n C ∈ zTb g) (hw2 : Cond.instantiable C N ∈ zTb g) (hw3 : Cond.initialized C ∈ zTb g) (hN : fs.length = N) (hfs : ∀ h0 x0, fs.map (zu h0 x0) = fs) (hdf : fs = (List.range N).map (fun k => defaultValue (ty0 k))) (hd : decode i.2.1 pc = .ok (.new n, 3)) : zOk g i pc (znw ci fs) := by
  intro X hE d Y rec hrec lo sk mem κ ρ y hf
  have hf : κ (pc + 3, lo, .ref mem.length :: sk, mem ++ [(.inr (ci, fs) : zE)]) = some y := hf
  refine Or.inl ⟨_, hf, zle.app, ?_⟩
  intro n0 sl0 p e R s m args below meth c hC hc1 hc2 Q hW H locs ls h1 h2 hP hS hl
  dsimp only at hc1 hc2 h1 h2
  have hsl : zsl (mem ++ [.inr (ci, fs)]) = zsl mem + N := by rw [zsl_app]; simp [zsz, hN]
  have hle : (mem ++ [(.inr (ci, fs) : zE)]).length = mem.length + 1 := by simp
  rw [hle] at hc1
  rw [hsl] at hc2
  show W p (zL X) e R s m args below meth c H locs (mem.length - n0) (zsl mem - sl0) Q (F0 m pc ls (sk.map (zU X)))
  refine va_new hC.1 hC.2.1 hC.2.2.2.2.1 hin ty0 hty hC.2.2.2.1 (hC.2.2.2.2.1 _ hw) (hC.2.2.2.2.1 _ hw2) (hC.2.2.2.2.1 _ hw3) hC.2.2.2.2.2.1 hP (zws_D _ _ _ _) hS (fun q hq => by show zH X ≤ q; have := hC.2.2.2.2.2.2.2.1; omega) hc (fs := fs) (fun j hj => ?_) (by omega) (by omega) hd (fun q H1 q1 q2 q3 => ?_)
  · have hj2 : fs[j]? = some (defaultValue (ty0 j)) := by
      rw [hdf, List.getElem?_map, List.getElem?_range hj]
      rfl
    rw [vp_V, List.getD_eq_getElem?_getD, hj2]
    rfl
  · refine z_size (fun hz => ?_)
    have hq : q = zH X + mem.length := z_new_at (n0 := n0) (H0 := s.heap) (locs := locs) q1 q2 (by have := hC.2.2.2.2.2.2.2.1; omega)
    have q4 := z_push (e' := .inr (ci, fs)) q1 hq (by show Sum.inr (ci, fs.map (zu (zH X) (zx X))) = _; rw [hfs])
    have := hW H1 locs ls (by show n0 ≤ (mem ++ [(.inr (ci, fs) : zE)]).length; rw [hle]; omega) (by show sl0 ≤ zsl (mem ++ [.inr (ci, fs)]); rw [hsl]; omega) q4 q3 hl
    rw [hq]
    refine W.cs ?_ ?_ this
    · show _ = (mem ++ [(.inr (ci, fs) : zE)]).length - n0; rw [hle]; omega
    · show _ = zsl (mem ++ [.inr (ci, fs)]) - sl0; rw [hsl]; omega
/-- an array of a kind, of a constant or computed length -/
noncomputable def zna (t : Nat) (b : Nat) (a0 : Nat → zA) (len : Nat) : zF := fun _ _ st κ _ => match st with
  | (pc, lo, sk, mem) => match sk with
  | .int x :: r => Bool.rec none (κ (pc + len, lo, .ref mem.length :: r, mem ++ [.inl (t, a0 x.toNatClampNeg)])) (Bool.and (!decide (x < 0)) (Nat.ble (x.toNatClampNeg * b) 536870912))
  | _ => none
theorem z_kA {g : zG} {X : zX} {s : State} {t : Nat} {ty : FieldType} {cA : ClassId} {k : Nat} {tys : List (ClassId × FieldType)} (hK : va_K (zD X) (zCl g) (zTt g X) s) (ht : (zTl g)[t]? = some ty) (hp : (∀ C, ty ≠ .object C) ∨ ∃ C, ty = .object C) (h2 : va_K (zD X) (zCl g) tys s) (hk : tys[k]? = some (cA, ty)) : cA = zK X t := by
  have h3 := (h2.2 k _ hk).2
  have h4 := (hK.2 t _ (zTy_at ht)).2
  rcases hp with hp | ⟨C, rfl⟩
  · cases ty <;> first | exact absurd rfl (hp _) | exact Option.some.inj (Eq.trans (Eq.symm h3) h4)
  · obtain ⟨_, _, -, -, -, a1⟩ := h3
    obtain ⟨_, _, -, -, -, a2⟩ := h4
    exact Option.some.inj (a1.symm.trans a2)
theorem ok_newa {t : Nat} {at_ : ArrayType} {ty : FieldType} {b : Nat} {a0 : Nat → zA} (hty : newarray.typeOf at_ = ty) (ht : (zTl g)[t]? = some ty) (hp : ∀ C, ty ≠ .object C) (hw : Cond.arrayClass ty ∈ zTb g) (hb : componentBytes ty = b) (ha : ∀ (h0 n : Nat) (cA : ClassId), vp_cell cA (zua h0 (a0 n)) = arrV cA n (fun _ => defaultValue ty)) (ha1 : ∀ n, zaz (a0 n) = n) (hd : decode i.2.1 pc = .ok (.newarray at_, 2)) : zOk g i pc (zna t b a0 2) := by
  intro X hE d Y rec hrec lo sk mem κ ρ y hf
  left
  unfold zna at hf
  dsimp only at hf
  split at hf
  · next x r =>
    cases hbb : Bool.and (!decide (x < 0)) (Nat.ble (x.toNatClampNeg * b) 536870912) with
    | false => rw [hbb] at hf; cases hf
    | true =>
      rw [hbb] at hf
      obtain ⟨b1, b2⟩ := (Bool.and_eq_true _ _).mp hbb
      have b2 := Nat.le_of_ble_eq_true b2
      simp only [Bool.not_eq_true', decide_eq_false_iff_not] at b1
      have hf : κ (pc + 2, lo, .ref mem.length :: r, mem ++ [(.inl (t, a0 x.toNatClampNeg) : zE)]) = some y := hf
      refine ⟨_, hf, zle.app, ?_⟩
      intro n0 sl0 p e R s m args below meth c hC hc1 hc2 Q hW H locs ls h1 h2 hP hS hl
      dsimp only at hc1 hc2 h1 h2
      have hsl : zsl (mem ++ [.inl (t, a0 x.toNatClampNeg)]) = zsl mem + x.toNatClampNeg := by rw [zsl_app]; simp [zsz, ha1]
      have hle : (mem ++ [(.inl (t, a0 x.toNatClampNeg) : zE)]).length = mem.length + 1 := by simp
      rw [hle] at hc1
      rw [hsl] at hc2
      show W p (zL X) e R s m args below meth c H locs (mem.length - n0) (zsl mem - sl0) Q (F0 m pc ls (.int x :: r.map (zU X)))
      refine va_newa (atype := at_) hC.1 hC.2.1 (by rw [hty]; exact hC.2.2.2.2.1 _ hw) hty hC.2.2.2.2.2.1 hP (zws_D _ _ _ _) hS (fun q hq => by show zH X ≤ q; have := hC.2.2.2.2.2.2.2.1; omega) (a0 := zua (zH X) (a0 x.toNatClampNeg)) (ha _ _) b1 rfl (by rw [hb]; exact b2) (by omega) (by omega) hd (fun q cA H1 q0 q1 q2 q3 => ?_)
      have hcA : cA = zK X t := z_kA (k := (zTt g X).length) hC.2.2.2.2.2.1 ht (Or.inl hp) q0 (by simp)
      subst hcA
      refine z_size (fun hz => ?_)
      have hq : q = zH X + mem.length := z_new_at (n0 := n0) (H0 := s.heap) (locs := locs) q1 q2 (by have := hC.2.2.2.2.2.2.2.1; omega)
      have q4 := z_push (e' := .inl (t, a0 x.toNatClampNeg)) q1 hq rfl
      have := hW H1 locs ls (by show n0 ≤ (mem ++ [(.inl (t, a0 x.toNatClampNeg) : zE)]).length; rw [hle]; omega) (by show sl0 ≤ zsl (mem ++ [.inl (t, a0 x.toNatClampNeg)]); rw [hsl]; omega) q4 q3 hl
      rw [hq]
      refine W.cs ?_ ?_ this
      · show _ = (mem ++ [(.inl (t, a0 x.toNatClampNeg) : zE)]).length - n0; rw [hle]; omega
      · show _ = zsl (mem ++ [.inl (t, a0 x.toNatClampNeg)]) - sl0; rw [hsl]; omega
  · cases hf
theorem ok_newq {t n : Nat} {C : String} (ht : (zTl g)[t]? = some (.object C)) (hao : ∀ X U, zEx g X U → va_AO C U) (hw : Cond.classLink i.1.cls n C ∈ zTb g) (hd : decode i.2.1 pc = .ok (.anewarray n, 3)) : zOk g i pc (zna t 4 (fun n => .inr (.inr (List.replicate n none))) 3) := by
  intro X hE d Y rec hrec lo sk mem κ ρ y hf
  left
  unfold zna at hf
  dsimp only at hf
  split at hf
  · next x r =>
    cases hbb : Bool.and (!decide (x < 0)) (Nat.ble (x.toNatClampNeg * 4) 536870912) with
    | false => rw [hbb] at hf; cases hf
    | true =>
      rw [hbb] at hf
      obtain ⟨b1, b2⟩ := (Bool.and_eq_true _ _).mp hbb
      have b2 := Nat.le_of_ble_eq_true b2
      simp only [Bool.not_eq_true', decide_eq_false_iff_not] at b1
      have hf : κ (pc + 3, lo, .ref mem.length :: r, mem ++ [(.inl (t, .inr (.inr (List.replicate x.toNatClampNeg none))) : zE)]) = some y := hf
      refine ⟨_, hf, zle.app, ?_⟩
      intro n0 sl0 p e R s m args below meth c hC hc1 hc2 Q hW H locs ls h1 h2 hP hS hl
      dsimp only at hc1 hc2 h1 h2
      have hsl : zsl (mem ++ [.inl (t, .inr (.inr (List.replicate x.toNatClampNeg none)))]) = zsl mem + x.toNatClampNeg := by rw [zsl_app]; simp [zsz, zaz]
      have hle : (mem ++ [(.inl (t, .inr (.inr (List.replicate x.toNatClampNeg none))) : zE)]).length = mem.length + 1 := by simp
      rw [hle] at hc1
      rw [hsl] at hc2
      show W p (zL X) e R s m args below meth c H locs (mem.length - n0) (zsl mem - sl0) Q (F0 m pc ls (.int x :: r.map (zU X)))
      refine va_newq hC.1 hC.2.1 hC.2.2.2.1 (hC.2.2.2.2.1 _ hw) (hao X s hC.2.2.2.2.2.2.1) hC.2.2.2.2.2.1 hP (zws_D _ _ _ _) hS (fun q hq => by show zH X ≤ q; have := hC.2.2.2.2.2.2.2.1; omega) b1 rfl b2 (by omega) (by omega) hd (fun q cA H1 q0 q1 q2 q3 => ?_)
      have hcA : cA = zK X t := z_kA (k := (zTt g X).length) hC.2.2.2.2.2.1 ht (Or.inr ⟨C, rfl⟩) q0 (by simp)
      subst hcA
      refine z_size (fun hz => ?_)
      have hq : q = zH X + mem.length := z_new_at (n0 := n0) (H0 := s.heap) (locs := locs) q1 q2 (by have := hC.2.2.2.2.2.2.2.1; omega)
      have q4 := z_push (e' := .inl (t, .inr (.inr (List.replicate x.toNatClampNeg none)))) q1 hq (by
        have e3 := z_grep x.toNatClampNeg (none : Option Nat)
        have e4 : (fun j => ((List.replicate x.toNatClampNeg (none : Option Nat)).getD j none).map (fun k => zH X + k)) = fun _ => none := by
          funext j
          have := congrFun e3 j
          rw [this]
          rfl
        simp only [zue, zua, List.length_replicate]
        rw [e4])
      have := hW H1 locs ls (by show n0 ≤ (mem ++ [(.inl (t, .inr (.inr (List.replicate x.toNatClampNeg none))) : zE)]).length; rw [hle]; omega) (by show sl0 ≤ zsl (mem ++ [.inl (t, .inr (.inr (List.replicate x.toNatClampNeg none)))]); rw [hsl]; omega) q4 q3 hl
      rw [hq]
      refine W.cs ?_ ?_ this
      · show _ = (mem ++ [(.inl (t, .inr (.inr (List.replicate x.toNatClampNeg none))) : zE)]).length - n0; rw [hle]; omega
      · show _ = zsl (mem ++ [.inl (t, .inr (.inr (List.replicate x.toNatClampNeg none)))]) - sl0; rw [hsl]; omega
  · cases hf
/-! returns -/
noncomputable def zri (z : Bool) : zF := fun _ _ st _ ρ => match st with
  | (pc, lo, sk, mem) => match sk with
  | [.int x] => Bool.rec none (ρ (some (.int x)) mem) (Bool.or (!z) (Bool.or (decide (x = 0)) (decide (x = 1))))
  | _ => none
theorem z_ret {X : zX} {r : Option Value} {mem : zM} {s : State} {H : Heap} {locs : List Loc} {args : Array Value} (hP : va_P (zD X) (zCl g) (zWs X mem) H) (hS : va_S (fun q => zH X ≤ q) s.heap H locs) (t : State) (ht : t.heap = H) : zQ g X r mem args s (.returned (r.map (zU X))) t :=
  ⟨rfl, by rw [ht]; exact hP, hS.F ht⟩
theorem ok_ireturn (hr : i.2.2.2 = some .int) (hd : decode i.2.1 pc = .ok (.ireturn, 1)) : zOk g i pc (zri false) := by
  intro X hE d Y rec hrec lo sk mem κ ρ y hf
  right
  unfold zri at hf
  dsimp only at hf
  split at hf
  · next x =>
    refine ⟨some (.int x), mem, hf, zle.rf, ?_⟩
    intro n0 sl0 p e R s m args below meth c hC H locs ls h1 h2 hP hS hl
    exact W.iret hC.1 hC.2.1 (hC.2.2.2.2.2.2.2.2.2.1.trans hr) (fun t ht _ => z_ret (r := some (.int x)) hP hS t ht) (fun q hq => hS.2.2 q hq) hd (hlocks := hC.2.2.2.2.2.2.2.2.1)
  · cases hf
theorem ok_zreturn (hr : i.2.2.2 = some .boolean) (hd : decode i.2.1 pc = .ok (.ireturn, 1)) : zOk g i pc (zri true) := by
  intro X hE d Y rec hrec lo sk mem κ ρ y hf
  right
  unfold zri at hf
  dsimp only at hf
  split at hf
  · next x =>
    cases hb : Bool.or (!true) (Bool.or (decide (x = 0)) (decide (x = 1))) with
    | false => rw [hb] at hf; cases hf
    | true =>
      rw [hb] at hf
      refine ⟨some (.int x), mem, hf, zle.rf, ?_⟩
      intro n0 sl0 p e R s m args below meth c hC H locs ls h1 h2 hP hS hl
      have hn : narrow .boolean (.int x) = .int x := by
        simp at hb
        rcases hb with h | h <;> subst h <;> rfl
      exact W.zret hC.1 hC.2.1 (hC.2.2.2.2.2.2.2.2.2.1.trans hr) hn (fun t ht _ => z_ret (r := some (.int x)) hP hS t ht) (fun q hq => hS.2.2 q hq) hd (hlocks := hC.2.2.2.2.2.2.2.2.1)
  · cases hf
def zrl : zF := fun _ _ st _ ρ => match st with
  | (pc, lo, sk, mem) => match sk with
  | [.long x] => ρ (some (.long x)) mem
  | _ => none
theorem ok_lreturn (hr : i.2.2.2 = some .long) (hd : decode i.2.1 pc = .ok (.lreturn, 1)) : zOk g i pc zrl := by
  intro X hE d Y rec hrec lo sk mem κ ρ y hf
  right
  unfold zrl at hf
  dsimp only at hf
  split at hf
  · next x =>
    refine ⟨some (.long x), mem, hf, zle.rf, ?_⟩
    intro n0 sl0 p e R s m args below meth c hC H locs ls h1 h2 hP hS hl
    exact W.lret hC.1 hC.2.1 (hC.2.2.2.2.2.2.2.2.2.1.trans hr) (fun t ht _ => z_ret (r := some (.long x)) hP hS t ht) (fun q hq => hS.2.2 q hq) hd (hlocks := hC.2.2.2.2.2.2.2.2.1)
  · cases hf
def zra : zF := fun _ _ st _ ρ => match st with
  | (pc, lo, sk, mem) => match sk with
  | [.ref x] => ρ (some (.ref x)) mem
  | _ => none
theorem ok_areturn {C : String} (hr : i.2.2.2 = some (.object C)) (hd : decode i.2.1 pc = .ok (.areturn, 1)) : zOk g i pc zra := by
  intro X hE d Y rec hrec lo sk mem κ ρ y hf
  right
  unfold zra at hf
  dsimp only at hf
  split at hf
  · next x =>
    refine ⟨some (.ref x), mem, hf, zle.rf, ?_⟩
    intro n0 sl0 p e R s m args below meth c hC H locs ls h1 h2 hP hS hl
    exact W.aret hC.1 hC.2.1 (hC.2.2.2.2.2.2.2.2.2.1.trans hr) (Or.inl ⟨C, rfl⟩) (Or.inr ⟨_, rfl⟩) (fun t ht _ => z_ret (r := some (.ref x)) hP hS t ht) (fun q hq => hS.2.2 q hq) hd (hlocks := hC.2.2.2.2.2.2.2.2.1)
  · cases hf
def zrv : zF := fun _ _ st _ ρ => match st with
  | (pc, lo, sk, mem) => match sk with
  | [] => ρ none mem
  | _ => none
theorem ok_return (hr : i.2.2.2 = none) (hd : decode i.2.1 pc = .ok (.return_, 1)) : zOk g i pc zrv := by
  intro X hE d Y rec hrec lo sk mem κ ρ y hf
  right
  unfold zrv at hf
  dsimp only at hf
  split at hf
  · refine ⟨none, mem, hf, zle.rf, ?_⟩
    intro n0 sl0 p e R s m args below meth c hC H locs ls h1 h2 hP hS hl
    exact W.vret hC.1 hC.2.1 (hC.2.2.2.2.2.2.2.2.2.1.trans hr) (fun t ht _ => z_ret (r := none) hP hS t ht) (fun q hq => hS.2.2 q hq) hd (hlocks := hC.2.2.2.2.2.2.2.2.1)
  · cases hf
/-! calls -/
def zpp : Nat → List Value → List Value → Option (List Value × List Value)
  | 0, acc, sk => some (acc, sk)
  | _ + 1, _, [] => none
  | n + 1, acc, v :: sk => zpp n (v :: acc) sk
theorem zpp_s : ∀ (n : Nat) (acc sk As rest : List Value), zpp n acc sk = some (As, rest) → ∃ Bs : List Value, As = Bs ++ acc ∧ Bs.length = n ∧ sk = Bs.reverse ++ rest := by
  intro n
  induction n with
  | zero =>
    intro acc sk As rest h
    cases h
    exact ⟨[], rfl, rfl, rfl⟩
  | succ n ih =>
    intro acc sk As rest h
    cases sk with
    | nil => cases h
    | cons v sk =>
      obtain ⟨Bs, h1, h2, h3⟩ := ih (v :: acc) sk As rest h
      exact ⟨Bs ++ [v], by rw [h1]; simp, by simp [h2], by rw [h3]; simp⟩
theorem zpp_0 {n : Nat} {sk As rest : List Value} (h : zpp n [] sk = some (As, rest)) : As.length = n ∧ sk = As.reverse ++ rest := by
  obtain ⟨Bs, h1, h2, h3⟩ := zpp_s n [] sk As rest h
  rw [List.append_nil] at h1
  subst h1
  exact ⟨h2, h3⟩
theorem z_goes {X : zX} {p : Program} {e : Env} {R : Room} {s : State} {m : MethodId} {args : Array Value} {below : List Frame} {meth : Method} {c : Code} {H : Heap} {locs : List Loc} {cells slots mc ms : Nat} {Q : State → Prop} {ls : Array Slot} {st0 rest : List Value} {a : Array Value} {r : Option Value} {mem' : zM} {A0 : Nat → Prop}
    (hA0 : A0 = fun q => zH X ≤ q) (hr : va_Run p (zL X) e R s m args below meth c H locs cells slots mc ms (F0 m pc ls st0) rest (zQ g X r mem' a) (fun q => zH X ≤ q)) (hS : va_S A0 s.heap H locs)
    (kk : ∀ (H1 : Heap) (locs1 : List Loc), va_P (zD X) (zCl g) (zWs X mem') H1 → va_S A0 s.heap H1 locs1 → W p (zL X) e R s m args below meth c H1 locs1 (cells + mc) (slots + ms) Q (F0 m (pc + 3) ls ((r.map (zU X)).toList ++ rest))) : W p (zL X) e R s m args below meth c H locs cells slots Q (F0 m pc ls st0) := by
  subst hA0
  intro T hT K
  obtain ⟨v, st₀, t, T', L, b0, K', hL, e1, e2, ⟨hv, hp, hz, hk⟩, st⟩ := hr T hT K
  cases hv
  rw [b0] at hz hk
  obtain ⟨t2, a1, b1⟩ := kk T'.heap (locs ++ L) (by rw [e1]; exact hp)
    ⟨Nat.le_trans hS.1 (by rw [e1]; exact hz), fun q h1 h2 => by rw [e1, hk q (Nat.lt_of_lt_of_le h1 hS.1) h2]; exact hS.2.1 q h1 h2, fun q hq => by
      rcases List.mem_append.mp hq with h | h
      · exact hS.2.2 q h
      · exact hL q h⟩ T' rfl K'
  exact ⟨t2, st t2 a1, b1⟩
theorem z_blind {X : zX} (hE : zExOk g X) (av : List Value) (mem : zM) : FrameBlind (va_Pc av (zPre g X mem)) := by
  intro a U f mk q
  obtain ⟨q0, q1, q2, q3, q4⟩ := q
  exact ⟨q0, q1, q2, va_K.moved (u := U) (U := U.calling f mk a) (Vm.Alike.refl U.vm) q3, hE.1 U f mk a q4⟩
theorem z_pre {X : zX} {d n0 : Nat} {p : Program} {R : Room} {s : State} {m : MethodId} {args : Array Value} {meth : Method} {c : Code} {mem : zM} {H : Heap} {locs : List Loc} (hE : zExOk g X) (hC : zC g X i d n0 p R s m args meth c) (hz : H.size = zH X + mem.length) (hP : va_P (zD X) (zCl g) (zWs X mem) H) (hS : va_S (fun q => zH X ≤ q) s.heap H locs) (U : State) (hU : U.heap = H) (hw : s.WarmedH U.vm) : zPre g X mem U := by
  refine ⟨by rw [hU]; exact hz, by rw [hU]; exact hP, va_K.moved hw.alike hC.2.2.2.2.2.1, hE.2 s U hw (fun q hq => ?_) hC.2.2.2.2.2.2.1⟩
  rw [hU]
  exact hS.2.1 q (by have := hC.2.2.2.2.2.2.2.1; omega) (by omega)
/-- what is asked of a callee: its number, words, and room -/
def zcal (g : zG) (j : Nat) (k : zI) (n : Nat) : Prop := zMt g j = some k ∧ (∀ w ∈ zTb g, goodWord w = true) ∧ Cond.code k.1 k.2.1 k.2.2.1 k.2.2.2 ∈ zTb g ∧ Cond.initialized k.1.cls ∈ zTb g ∧ (k.1.cls ≠ "java/lang/invoke/MethodHandle" ∧ k.1.cls ≠ "java/lang/invoke/VarHandle" ∧ (parseMethodDescriptor k.1.desc).map (fun d => d.parameters.length) = some n) ∧ k.2.2.1 ≤ 45
theorem z_good {j n : Nat} {k : zI} (h : zcal g j k n) : GoodIn (zTb g) (zwo g k) := by
  intro w hw
  rcases List.mem_cons.mp hw with rfl | hw
  · exact ⟨h.2.2.1, good_of_word (h.2.1 _ h.2.2.1)⟩
  · exact ⟨hw, good_of_word (h.2.1 _ hw)⟩
noncomputable def zcv (j n ci : Nat) : zF := fun _ rec st κ _ => match st with
  | (pc, lo, sk, mem) => match zpp n [] sk with
  | some (As, .ref b :: rest) => match zat mem b with
    | some (.inr o) => Bool.rec none (rec j (.ref b :: As) mem (fun r mem' => κ (pc + 3, lo, r.toList ++ rest, mem'))) (Bool.and (Nat.beq o.1 ci) (Nat.ble (zwd rest) 8))
    | _ => none
  | _ => none
noncomputable def zci (j n : Nat) : zF := fun _ rec st κ _ => match st with
  | (pc, lo, sk, mem) => match zpp n [] sk with
  | some (As, .ref b :: rest) => Bool.rec none (rec j (.ref b :: As) mem (fun r mem' => κ (pc + 3, lo, r.toList ++ rest, mem'))) (Nat.ble (zwd rest) 8)
  | _ => none
noncomputable def zcs (j n : Nat) : zF := fun _ rec st κ _ => match st with
  | (pc, lo, sk, mem) => match zpp n [] sk with
  | some (As, rest) => Bool.rec none (rec j As mem (fun r mem' => κ (pc + 3, lo, r.toList ++ rest, mem'))) (Nat.ble (zwd rest) 8)
  | _ => none
theorem z_list (X : zX) (r : Option Value) (rest : List Value) : (r.map (zU X)).toList ++ rest.map (zU X) = (r.toList ++ rest).map (zU X) := by cases r <;> rfl
theorem ok_callV {j n idx : Nat} {k : zI} {ci : Nat} {q : vw_C} (hk0 : zcal g j k n) (hcl : (zCl g)[ci]? = some q) (hw : Cond.methodLink i.1.cls idx k.1 ∈ zTb g) (hw2 : Cond.instanceMethod k.1 ∈ zTb g) (hw3 : Cond.selects q.1 k.1 k.1 ∈ zTb g) (hd : decode i.2.1 pc = .ok (.invokevirtual idx, 3)) : zOk g i pc (zcv j n ci) := by
  intro X hE d Y rec hrec lo sk mem κ ρ y hf
  left
  unfold zcv at hf
  dsimp only at hf
  split at hf
  · next As b rest hpp =>
    split at hf
    · next o ho =>
      cases hb : Bool.and (Nat.beq o.1 ci) (Nat.ble (zwd rest) 8) with
      | false => rw [hb] at hf; cases hf
      | true =>
        rw [hb] at hf
        obtain ⟨b1, b2⟩ := (Bool.and_eq_true _ _).mp hb
        have hci := Nat.eq_of_beq_eq_true b1
        have b2 := Nat.le_of_ble_eq_true b2
        rw [zat_eq] at ho
        obtain ⟨hn, hsk⟩ := zpp_0 hpp
        obtain ⟨r, mem', hk, hle, hM⟩ := hrec j (.ref b :: As) mem _ y hf
        have hM := hM k hk0.1
        refine ⟨(pc + 3, lo, r.toList ++ rest, mem'), hk, hle, ?_⟩
        intro n0 sl0 p e R s m args below meth c hC hc1 hc2 Q hW H locs ls h1 h2 hP hS hl
        have hc1 : mem'.length ≤ n0 + R.cells := hc1
        have hc2 : zsl mem' ≤ sl0 + R.slots := hc2
        have h1 : n0 ≤ mem.length := h1
        have h2 : sl0 ≤ zsl mem := h2
        show W p (zL X) e R s m args below meth c H locs (mem.length - n0) (zsl mem - sl0) Q (F0 m pc ls (sk.map (zU X)))
        refine z_size (fun hz => ?_)
        have hge : zH X + mem.length ≤ H.size := z_ge (mem := mem) hP hS hC.2.2.2.2.2.2.2.1 h1
        have hsz : H.size = zH X + mem.length := by have := hC.2.2.2.2.2.2.2.1; omega
        obtain ⟨hl1, hl2, -⟩ := hle
        have hb8 : ((rest.map (zU X)).map fun v => v.category).sum ≤ 8 := by have e1 : ((rest.map (zU X)).map fun v => v.category).sum = zwd rest := zwd_m (zH X) (zx X) rest; omega
        have hfr := hC.2.2.2.2.2.2.2.2.2.2.2
        have hpr : ∀ U : State, U.heap = H → s.WarmedH U.vm → va_Pc ((.ref b :: As).map (zU X)) (zPre g X mem) ((.ref b :: As).map (zU X)).toArray U := fun U hU hw => ⟨rfl, z_pre hE hC hsz hP hS U hU hw⟩
        refine z_goes (r := r) (mem' := mem') (mc := mem'.length - mem.length) (ms := zsl mem' - zsl mem) (rest := rest.map (zU X)) rfl (va_runV (C := q.1) (As := As.map (zU X)) (b := zH X + b) ⟨hC.1, hC.2.1, hC.2.2.1, hC.2.2.2.1, hC.2.2.2.2.1⟩ hM ⟨(callB_of (ret := k.2.2.2) n hC.2.2.2.2.1 (z_good hk0) rfl rfl rfl (hC.2.2.2.2.1 _ hk0.2.2.2.1) (hC.2.2.2.2.1 _ hw) hk0.2.2.2.2.1 ⟨by show d + 1 ≤ R.frames; omega, by show 8 + (k.2.2.1 + 11) + 64 * d ≤ R.locals; have := hk0.2.2.2.2.2; omega⟩), hC.2.2.2.2.1 _ hw2, hC.2.2.2.2.1 _ hw3⟩ ⟨z_blind hE _ _, by have := va_recv (q0 := b) hC.2.2.2.2.2.1 hP hcl (by rw [zws_at ho, ← hci]; rfl : (zWs X mem)[b]? = some (zH X + b, .inr (ci, o.2.map (zU X)))); exact this, hpr⟩ rfl (by rw [List.length_map]; exact hn) hl.1 (by rw [hsk]; simp [zu]) (by show 2 * 0 + _ ≤ 8; omega) hd ⟨by omega, by omega⟩) hS (fun H1 locs1 q1 q2 => ?_)
        have := hW H1 locs1 ls (by show n0 ≤ mem'.length; omega) (by show sl0 ≤ zsl mem'; omega) q1 q2 hl
        rw [z_list]
        refine W.cs ?_ ?_ this
        · show _ = mem'.length - n0; omega
        · show _ = zsl mem' - sl0; omega
    · cases hf
  · cases hf
theorem ok_callS {j n idx : Nat} {k : zI} (hk0 : zcal g j k n) (hw : Cond.methodLink i.1.cls idx k.1 ∈ zTb g) (hw2 : Cond.static k.1 ∈ zTb g) (hd : decode i.2.1 pc = .ok (.invokestatic idx, 3)) : zOk g i pc (zcs j n) := by
  intro X hE d Y rec hrec lo sk mem κ ρ y hf
  left
  unfold zcs at hf
  dsimp only at hf
  split at hf
  · next As rest hpp =>
    cases hb : Nat.ble (zwd rest) 8 with
    | false => rw [hb] at hf; cases hf
    | true =>
      rw [hb] at hf
      have b2 := Nat.le_of_ble_eq_true hb
      obtain ⟨hn, hsk⟩ := zpp_0 hpp
      obtain ⟨r, mem', hk, hle, hM⟩ := hrec j (As) mem _ y hf
      have hM := hM k hk0.1
      refine ⟨(pc + 3, lo, r.toList ++ rest, mem'), hk, hle, ?_⟩
      intro n0 sl0 p e R s m args below meth c hC hc1 hc2 Q hW H locs ls h1 h2 hP hS hl
      have hc1 : mem'.length ≤ n0 + R.cells := hc1
      have hc2 : zsl mem' ≤ sl0 + R.slots := hc2
      have h1 : n0 ≤ mem.length := h1
      have h2 : sl0 ≤ zsl mem := h2
      show W p (zL X) e R s m args below meth c H locs (mem.length - n0) (zsl mem - sl0) Q (F0 m pc ls (sk.map (zU X)))
      refine z_size (fun hz => ?_)
      have hge : zH X + mem.length ≤ H.size := z_ge (mem := mem) hP hS hC.2.2.2.2.2.2.2.1 h1
      have hsz : H.size = zH X + mem.length := by have := hC.2.2.2.2.2.2.2.1; omega
      obtain ⟨hl1, hl2, -⟩ := hle
      have hb8 : ((rest.map (zU X)).map fun v => v.category).sum ≤ 8 := by have e1 : ((rest.map (zU X)).map fun v => v.category).sum = zwd rest := zwd_m (zH X) (zx X) rest; omega
      have hfr := hC.2.2.2.2.2.2.2.2.2.2.2
      have hpr : ∀ U : State, U.heap = H → s.WarmedH U.vm → va_Pc ((As).map (zU X)) (zPre g X mem) ((As).map (zU X)).toArray U := fun U hU hw => ⟨rfl, z_pre hE hC hsz hP hS U hU hw⟩
      refine z_goes (r := r) (mem' := mem') (mc := mem'.length - mem.length) (ms := zsl mem' - zsl mem) (rest := rest.map (zU X)) rfl (va_runS (As := As.map (zU X)) ⟨hC.1, hC.2.1, hC.2.2.1, hC.2.2.2.1, hC.2.2.2.2.1⟩ hM ⟨(callB_of (ret := k.2.2.2) n hC.2.2.2.2.1 (z_good hk0) rfl rfl rfl (hC.2.2.2.2.1 _ hk0.2.2.2.1) (hC.2.2.2.2.1 _ hw) hk0.2.2.2.2.1 ⟨by show d + 1 ≤ R.frames; omega, by show 8 + (k.2.2.1 + 11) + 64 * d ≤ R.locals; have := hk0.2.2.2.2.2; omega⟩), hC.2.2.2.2.1 _ hw2⟩ ⟨z_blind hE _ _, hpr⟩ rfl (by rw [List.length_map]; exact hn) hl.1 (by rw [hsk]; simp [zu]) (by show 2 * 0 + _ ≤ 8; omega) hd ⟨by omega, by omega⟩) hS (fun H1 locs1 q1 q2 => ?_)
      have := hW H1 locs1 ls (by show n0 ≤ mem'.length; omega) (by show sl0 ≤ zsl mem'; omega) q1 q2 hl
      rw [z_list]
      refine W.cs ?_ ?_ this
      · show _ = mem'.length - n0; omega
      · show _ = zsl mem' - sl0; omega
  · cases hf
theorem ok_callI {j n idx : Nat} {k : zI} (hk0 : zcal g j k n) (hgn : k.2.2.2 = none) (hin : k.1.name = "<init>") (hw : Cond.methodLink i.1.cls idx k.1 ∈ zTb g) (hw2 : Cond.instanceMethod k.1 ∈ zTb g) (hd : decode i.2.1 pc = .ok (.invokespecial idx, 3)) : zOk g i pc (zci j n) := by
  intro X hE d Y rec hrec lo sk mem κ ρ y hf
  left
  unfold zci at hf
  dsimp only at hf
  split at hf
  · next As b rest hpp =>
    cases hb : Nat.ble (zwd rest) 8 with
    | false => rw [hb] at hf; cases hf
    | true =>
      rw [hb] at hf
      have b2 := Nat.le_of_ble_eq_true hb
      obtain ⟨hn, hsk⟩ := zpp_0 hpp
      obtain ⟨r, mem', hk, hle, hM⟩ := hrec j (.ref b :: As) mem _ y hf
      have hM := hM k hk0.1
      refine ⟨(pc + 3, lo, r.toList ++ rest, mem'), hk, hle, ?_⟩
      intro n0 sl0 p e R s m args below meth c hC hc1 hc2 Q hW H locs ls h1 h2 hP hS hl
      have hc1 : mem'.length ≤ n0 + R.cells := hc1
      have hc2 : zsl mem' ≤ sl0 + R.slots := hc2
      have h1 : n0 ≤ mem.length := h1
      have h2 : sl0 ≤ zsl mem := h2
      show W p (zL X) e R s m args below meth c H locs (mem.length - n0) (zsl mem - sl0) Q (F0 m pc ls (sk.map (zU X)))
      refine z_size (fun hz => ?_)
      have hge : zH X + mem.length ≤ H.size := z_ge (mem := mem) hP hS hC.2.2.2.2.2.2.2.1 h1
      have hsz : H.size = zH X + mem.length := by have := hC.2.2.2.2.2.2.2.1; omega
      obtain ⟨hl1, hl2, -⟩ := hle
      have hb8 : ((rest.map (zU X)).map fun v => v.category).sum ≤ 8 := by have e1 : ((rest.map (zU X)).map fun v => v.category).sum = zwd rest := zwd_m (zH X) (zx X) rest; omega
      have hfr := hC.2.2.2.2.2.2.2.2.2.2.2
      have hpr : ∀ U : State, U.heap = H → s.WarmedH U.vm → va_Pc ((.ref b :: As).map (zU X)) (zPre g X mem) ((.ref b :: As).map (zU X)).toArray U := fun U hU hw => ⟨rfl, z_pre hE hC hsz hP hS U hU hw⟩
      refine z_goes (r := r) (mem' := mem') (mc := mem'.length - mem.length) (ms := zsl mem' - zsl mem) (rest := rest.map (zU X)) rfl (va_runI (As := As.map (zU X)) (b := zH X + b) ⟨hC.1, hC.2.1, hC.2.2.1, hC.2.2.2.1, hC.2.2.2.2.1⟩ (by have hz := hM; simp only [zwo, hgn] at hz; exact hz) ⟨(callB_of (ret := none) n hC.2.2.2.2.1 (hgn ▸ z_good hk0 : GoodIn (zTb g) (Cond.code k.1 k.2.1 k.2.2.1 none :: zTb g)) rfl rfl rfl (hC.2.2.2.2.1 _ hk0.2.2.2.1) (hC.2.2.2.2.1 _ hw) hk0.2.2.2.2.1 ⟨by show d + 1 ≤ R.frames; omega, by show 8 + (k.2.2.1 + 11) + 64 * d ≤ R.locals; have := hk0.2.2.2.2.2; omega⟩), hin, hC.2.2.2.2.1 _ hw2⟩ ⟨z_blind hE _ _, hpr⟩ rfl (by rw [List.length_map]; exact hn) hl.1 (by rw [hsk]; simp [zu]) (by show 2 * 0 + _ ≤ 8; omega) hd ⟨by omega, by omega⟩) hS (fun H1 locs1 q1 q2 => ?_)
      have := hW H1 locs1 ls (by show n0 ≤ mem'.length; omega) (by show sl0 ≤ zsl mem'; omega) q1 q2 hl
      rw [z_list]
      refine W.cs ?_ ?_ this
      · show _ = mem'.length - n0; omega
      · show _ = zsl mem' - sl0; omega
  · cases hf
theorem ok_callSN {j n idx : Nat} {k : zI} {host : String} (hk0 : zcal g j k n) (hw : ∀ X U, zEx g X U → va_Nw (.methodLinkNest i.1.cls idx k.1 host) U) (hw2 : Cond.static k.1 ∈ zTb g) (hd : decode i.2.1 pc = .ok (.invokestatic idx, 3)) : zOk g i pc (zcs j n) := by
  intro X hE d Y rec hrec lo sk mem κ ρ y hf
  left
  unfold zcs at hf
  dsimp only at hf
  split at hf
  · next As rest hpp =>
    cases hb : Nat.ble (zwd rest) 8 with
    | false => rw [hb] at hf; cases hf
    | true =>
      rw [hb] at hf
      have b2 := Nat.le_of_ble_eq_true hb
      obtain ⟨hn, hsk⟩ := zpp_0 hpp
      obtain ⟨r, mem', hk, hle, hM⟩ := hrec j (As) mem _ y hf
      have hM := hM k hk0.1
      refine ⟨(pc + 3, lo, r.toList ++ rest, mem'), hk, hle, ?_⟩
      intro n0 sl0 p e R s m args below meth c hC hc1 hc2 Q hW H locs ls h1 h2 hP hS hl
      have hc1 : mem'.length ≤ n0 + R.cells := hc1
      have hc2 : zsl mem' ≤ sl0 + R.slots := hc2
      have h1 : n0 ≤ mem.length := h1
      have h2 : sl0 ≤ zsl mem := h2
      show W p (zL X) e R s m args below meth c H locs (mem.length - n0) (zsl mem - sl0) Q (F0 m pc ls (sk.map (zU X)))
      refine z_size (fun hz => ?_)
      have hge : zH X + mem.length ≤ H.size := z_ge (mem := mem) hP hS hC.2.2.2.2.2.2.2.1 h1
      have hsz : H.size = zH X + mem.length := by have := hC.2.2.2.2.2.2.2.1; omega
      obtain ⟨hl1, hl2, -⟩ := hle
      have hb8 : ((rest.map (zU X)).map fun v => v.category).sum ≤ 8 := by have e1 : ((rest.map (zU X)).map fun v => v.category).sum = zwd rest := zwd_m (zH X) (zx X) rest; omega
      have hfr := hC.2.2.2.2.2.2.2.2.2.2.2
      have hpr : ∀ U : State, U.heap = H → s.WarmedH U.vm → va_Pc ((As).map (zU X)) (zPre g X mem) ((As).map (zU X)).toArray U := fun U hU hw => ⟨rfl, z_pre hE hC hsz hP hS U hU hw⟩
      refine z_goes (r := r) (mem' := mem') (mc := mem'.length - mem.length) (ms := zsl mem' - zsl mem) (rest := rest.map (zU X)) rfl (va_runSN (As := As.map (zU X)) ⟨hC.1, hC.2.1, hC.2.2.1, hC.2.2.2.1, hC.2.2.2.2.1⟩ hM ⟨(va_cnB (ret := k.2.2.2) n hC.2.2.2.2.1 (z_good hk0) rfl rfl rfl (hw X s hC.2.2.2.2.2.2.1) (hC.2.2.2.2.1 _ hk0.2.2.2.1) hk0.2.2.2.2.1 ⟨by show d + 1 ≤ R.frames; omega, by show 8 + (k.2.2.1 + 11) + 64 * d ≤ R.locals; have := hk0.2.2.2.2.2; omega⟩), hC.2.2.2.2.1 _ hw2, trivial⟩ ⟨z_blind hE _ _, hpr⟩ rfl (by rw [List.length_map]; exact hn) hl.1 (by rw [hsk]; simp [zu]) (by show 2 * 0 + _ ≤ 8; omega) hd ⟨by omega, by omega⟩) hS (fun H1 locs1 q1 q2 => ?_)
      have := hW H1 locs1 ls (by show n0 ≤ mem'.length; omega) (by show sl0 ≤ zsl mem'; omega) q1 q2 hl
      rw [z_list]
      refine W.cs ?_ ?_ this
      · show _ = mem'.length - n0; omega
      · show _ = zsl mem' - sl0; omega
  · cases hf
theorem ok_callVN {j n idx : Nat} {k : zI} {ci : Nat} {q : vw_C} {host : String} (hk0 : zcal g j k n) (hcl : (zCl g)[ci]? = some q) (hw : ∀ X U, zEx g X U → va_Nw (.methodLinkNest i.1.cls idx k.1 host) U) (hw2 : Cond.instanceMethod k.1 ∈ zTb g) (hw3 : Cond.selects q.1 k.1 k.1 ∈ zTb g) (hd : decode i.2.1 pc = .ok (.invokevirtual idx, 3)) : zOk g i pc (zcv j n ci) := by
  intro X hE d Y rec hrec lo sk mem κ ρ y hf
  left
  unfold zcv at hf
  dsimp only at hf
  split at hf
  · next As b rest hpp =>
    split at hf
    · next o ho =>
      cases hb : Bool.and (Nat.beq o.1 ci) (Nat.ble (zwd rest) 8) with
      | false => rw [hb] at hf; cases hf
      | true =>
        rw [hb] at hf
        obtain ⟨b1, b2⟩ := (Bool.and_eq_true _ _).mp hb
        have hci := Nat.eq_of_beq_eq_true b1
        have b2 := Nat.le_of_ble_eq_true b2
        rw [zat_eq] at ho
        obtain ⟨hn, hsk⟩ := zpp_0 hpp
        obtain ⟨r, mem', hk, hle, hM⟩ := hrec j (.ref b :: As) mem _ y hf
        have hM := hM k hk0.1
        refine ⟨(pc + 3, lo, r.toList ++ rest, mem'), hk, hle, ?_⟩
        intro n0 sl0 p e R s m args below meth c hC hc1 hc2 Q hW H locs ls h1 h2 hP hS hl
        have hc1 : mem'.length ≤ n0 + R.cells := hc1
        have hc2 : zsl mem' ≤ sl0 + R.slots := hc2
        have h1 : n0 ≤ mem.length := h1
        have h2 : sl0 ≤ zsl mem := h2
        show W p (zL X) e R s m args below meth c H locs (mem.length - n0) (zsl mem - sl0) Q (F0 m pc ls (sk.map (zU X)))
        refine z_size (fun hz => ?_)
        have hge : zH X + mem.length ≤ H.size := z_ge (mem := mem) hP hS hC.2.2.2.2.2.2.2.1 h1
        have hsz : H.size = zH X + mem.length := by have := hC.2.2.2.2.2.2.2.1; omega
        obtain ⟨hl1, hl2, -⟩ := hle
        have hb8 : ((rest.map (zU X)).map fun v => v.category).sum ≤ 8 := by have e1 : ((rest.map (zU X)).map fun v => v.category).sum = zwd rest := zwd_m (zH X) (zx X) rest; omega
        have hfr := hC.2.2.2.2.2.2.2.2.2.2.2
        have hpr : ∀ U : State, U.heap = H → s.WarmedH U.vm → va_Pc ((.ref b :: As).map (zU X)) (zPre g X mem) ((.ref b :: As).map (zU X)).toArray U := fun U hU hw => ⟨rfl, z_pre hE hC hsz hP hS U hU hw⟩
        refine z_goes (r := r) (mem' := mem') (mc := mem'.length - mem.length) (ms := zsl mem' - zsl mem) (rest := rest.map (zU X)) rfl (va_runVN (C := q.1) (As := As.map (zU X)) (b := zH X + b) ⟨hC.1, hC.2.1, hC.2.2.1, hC.2.2.2.1, hC.2.2.2.2.1⟩ hM ⟨(va_cnB (ret := k.2.2.2) n hC.2.2.2.2.1 (z_good hk0) rfl rfl rfl (hw X s hC.2.2.2.2.2.2.1) (hC.2.2.2.2.1 _ hk0.2.2.2.1) hk0.2.2.2.2.1 ⟨by show d + 1 ≤ R.frames; omega, by show 8 + (k.2.2.1 + 11) + 64 * d ≤ R.locals; have := hk0.2.2.2.2.2; omega⟩), hC.2.2.2.2.1 _ hw2, hC.2.2.2.2.1 _ hw3⟩ ⟨z_blind hE _ _, by have := va_recv (q0 := b) hC.2.2.2.2.2.1 hP hcl (by rw [zws_at ho, ← hci]; rfl : (zWs X mem)[b]? = some (zH X + b, .inr (ci, o.2.map (zU X)))); exact this, hpr⟩ rfl (by rw [List.length_map]; exact hn) hl.1 (by rw [hsk]; simp [zu]) (by show 2 * 0 + _ ≤ 8; omega) hd ⟨by omega, by omega⟩) hS (fun H1 locs1 q1 q2 => ?_)
        have := hW H1 locs1 ls (by show n0 ≤ mem'.length; omega) (by show sl0 ≤ zsl mem'; omega) q1 q2 hl
        rw [z_list]
        refine W.cs ?_ ?_ this
        · show _ = mem'.length - n0; omega
        · show _ = zsl mem' - sl0; omega
    · cases hf
  · cases hf
theorem ok_callIN {j n idx : Nat} {k : zI} {host : String} (hk0 : zcal g j k n) (hgn : k.2.2.2 = none) (hin : k.1.name = "<init>") (hw : ∀ X U, zEx g X U → va_Nw (.methodLinkNest i.1.cls idx k.1 host) U) (hw2 : Cond.instanceMethod k.1 ∈ zTb g) (hd : decode i.2.1 pc = .ok (.invokespecial idx, 3)) : zOk g i pc (zci j n) := by
  intro X hE d Y rec hrec lo sk mem κ ρ y hf
  left
  unfold zci at hf
  dsimp only at hf
  split at hf
  · next As b rest hpp =>
    cases hb : Nat.ble (zwd rest) 8 with
    | false => rw [hb] at hf; cases hf
    | true =>
      rw [hb] at hf
      have b2 := Nat.le_of_ble_eq_true hb
      obtain ⟨hn, hsk⟩ := zpp_0 hpp
      obtain ⟨r, mem', hk, hle, hM⟩ := hrec j (.ref b :: As) mem _ y hf
      have hM := hM k hk0.1
      refine ⟨(pc + 3, lo, r.toList ++ rest, mem'), hk, hle, ?_⟩
      intro n0 sl0 p e R s m args below meth c hC hc1 hc2 Q hW H locs ls h1 h2 hP hS hl
      have hc1 : mem'.length ≤ n0 + R.cells := hc1
      have hc2 : zsl mem' ≤ sl0 + R.slots := hc2
      have h1 : n0 ≤ mem.length := h1
      have h2 : sl0 ≤ zsl mem := h2
      show W p (zL X) e R s m args below meth c H locs (mem.length - n0) (zsl mem - sl0) Q (F0 m pc ls (sk.map (zU X)))
      refine z_size (fun hz => ?_)
      have hge : zH X + mem.length ≤ H.size := z_ge (mem := mem) hP hS hC.2.2.2.2.2.2.2.1 h1
      have hsz : H.size = zH X + mem.length := by have := hC.2.2.2.2.2.2.2.1; omega
      obtain ⟨hl1, hl2, -⟩ := hle
      have hb8 : ((rest.map (zU X)).map fun v => v.category).sum ≤ 8 := by have e1 : ((rest.map (zU X)).map fun v => v.category).sum = zwd rest := zwd_m (zH X) (zx X) rest; omega
      have hfr := hC.2.2.2.2.2.2.2.2.2.2.2
      have hpr : ∀ U : State, U.heap = H → s.WarmedH U.vm → va_Pc ((.ref b :: As).map (zU X)) (zPre g X mem) ((.ref b :: As).map (zU X)).toArray U := fun U hU hw => ⟨rfl, z_pre hE hC hsz hP hS U hU hw⟩
      refine z_goes (r := r) (mem' := mem') (mc := mem'.length - mem.length) (ms := zsl mem' - zsl mem) (rest := rest.map (zU X)) rfl (va_runIN (As := As.map (zU X)) (b := zH X + b) ⟨hC.1, hC.2.1, hC.2.2.1, hC.2.2.2.1, hC.2.2.2.2.1⟩ (by have hz := hM; simp only [zwo, hgn] at hz; exact hz) ⟨(va_cnB (ret := none) n hC.2.2.2.2.1 (hgn ▸ z_good hk0 : GoodIn (zTb g) (Cond.code k.1 k.2.1 k.2.2.1 none :: zTb g)) rfl rfl rfl (hw X s hC.2.2.2.2.2.2.1) (hC.2.2.2.2.1 _ hk0.2.2.2.1) hk0.2.2.2.2.1 ⟨by show d + 1 ≤ R.frames; omega, by show 8 + (k.2.2.1 + 11) + 64 * d ≤ R.locals; have := hk0.2.2.2.2.2; omega⟩), hin, hC.2.2.2.2.1 _ hw2⟩ ⟨z_blind hE _ _, hpr⟩ rfl (by rw [List.length_map]; exact hn) hl.1 (by rw [hsk]; simp [zu]) (by show 2 * 0 + _ ≤ 8; omega) hd ⟨by omega, by omega⟩) hS (fun H1 locs1 q1 q2 => ?_)
      have := hW H1 locs1 ls (by show n0 ≤ mem'.length; omega) (by show sl0 ≤ zsl mem'; omega) q1 q2 hl
      rw [z_list]
      refine W.cs ?_ ?_ this
      · show _ = mem'.length - n0; omega
      · show _ = zsl mem' - sl0; omega
  · cases hf
/-! Object.<init>, arraycopy -/
noncomputable def zoi : zF := fun _ _ st κ _ => match st with
  | (pc, lo, sk, mem) => match sk with
  | .ref _ :: r => Bool.rec none (κ (pc + 3, lo, r, mem)) (Nat.ble (zwd r) 8)
  | _ => none
theorem ok_objInit {idx : Nat} (hw : Cond.methodLink i.1.cls idx Lib.objectInit ∈ zTb g) (hw2 : Cond.instanceMethod Lib.objectInit ∈ zTb g) (hw3 : Cond.code Lib.objectInit ⟨#[0xb1]⟩ 1 none ∈ zTb g) (hd : decode i.2.1 pc = .ok (.invokespecial idx, 3)) : zOk g i pc zoi := by
  intro X hE d Y rec hrec lo sk mem κ ρ y hf
  left
  unfold zoi at hf
  dsimp only at hf
  split at hf
  · next a r =>
    cases hb : Nat.ble (zwd r) 8 with
    | false => rw [hb] at hf; cases hf
    | true =>
      rw [hb] at hf
      have b2 := Nat.le_of_ble_eq_true hb
      refine ⟨(pc + 3, lo, r, mem), hf, zle.rf, ?_⟩
      intro n0 sl0 p e R s m args below meth c hC _ _ Q hW H locs ls h1 h2 hP hS hl
      have hfr := hC.2.2.2.2.2.2.2.2.2.2.2
      have hb8 : ((r.map (zU X)).map fun v => v.category).sum ≤ 8 := by have e1 : ((r.map (zU X)).map fun v => v.category).sum = zwd r := zwd_m (zH X) (zx X) r; omega
      exact W.objInit hC.1 hC.2.1 hC.2.2.2.1 (hC.2.2.2.2.1 _ hw) (hC.2.2.2.2.1 _ hw2) (hC.2.2.2.2.1 _ hw3) (a := zH X + a) (rest := r.map (zU X)) rfl (hl.1.trans hC.2.2.1.symm) rfl hd (by omega) (by show 2 * 0 + _ + 12 ≤ _; omega) (hW H locs ls h1 h2 hP hS hl)
  · cases hf
def zcpl (f g : List Int32) (sp dp n : Nat) : List Int32 := (List.range g.length).map (va_cpy (fun j => f.getD j 0) (fun j => g.getD j 0) sp dp n)
theorem zcpl_len (f g : List Int32) (sp dp n : Nat) : (zcpl f g sp dp n).length = g.length := by simp [zcpl]
theorem zcpl_s {f g : List Int32} {sp dp n : Nat} (h : dp + n ≤ g.length) : (fun j => (zcpl f g sp dp n).getD j 0) = va_cpy (fun j => f.getD j 0) (fun j => g.getD j 0) sp dp n := by
  funext j
  rw [List.getD_eq_getElem?_getD, zcpl, List.getElem?_map]
  by_cases hj : j < g.length
  · rw [List.getElem?_range hj]
    rfl
  · rw [List.getElem?_eq_none (by simpa using hj)]
    unfold va_cpy
    rw [if_neg (by omega)]
    show _ = g.getD j 0
    rw [List.getD_eq_getElem?_getD, List.getElem?_eq_none (by omega)]
    rfl
noncomputable def zcp (t : Nat) : zF := fun _ _ st κ _ => match st with
  | (pc, lo, sk, mem) => match sk with
  | .int n :: .int dp :: .ref a :: .int sp :: .ref a0 :: r => match zat mem a0 with
    | some (.inl (t0, .inl f)) => match zat mem a with
      | some (.inl (t1, .inl f1)) => Bool.rec none (κ (pc + 3, lo, r, mem.set a (.inl (t1, .inl (zcpl f f1 sp.toNatClampNeg dp.toNatClampNeg n.toNatClampNeg))))) (Bool.and (Bool.and (Nat.beq t0 t) (Nat.beq t1 t)) (Bool.and (Bool.and (!decide (sp < 0)) (Bool.and (!decide (dp < 0)) (!decide (n < 0)))) (Bool.and (Bool.and (Nat.ble (sp.toNatClampNeg + n.toNatClampNeg) f.length) (Nat.ble (dp.toNatClampNeg + n.toNatClampNeg) f1.length)) (Nat.ble (zwd r) 8))))
      | _ => none
    | _ => none
  | _ => none
theorem ok_copyi {t idx : Nat} (ht : (zTl g)[t]? = some .int) (hw : Cond.methodLink i.1.cls idx arraycopyName ∈ zTb g) (hw2 : Cond.native arraycopyName ∈ zTb g) (hw3 : Cond.static arraycopyName ∈ zTb g) (hw4 : Cond.initialized "java/lang/System" ∈ zTb g) (hd : decode i.2.1 pc = .ok (.invokestatic idx, 3)) : zOk g i pc (zcp t) := by
  intro X hE d Y rec hrec lo sk mem κ ρ y hf
  left
  unfold zcp at hf
  dsimp only at hf
  split at hf
  · next n dp a sp a0 r =>
    split at hf
    · next t0 f ho0 =>
      split at hf
      · next t1 f1 ho1 =>
        cases hb : Bool.and (Bool.and (Nat.beq t0 t) (Nat.beq t1 t)) (Bool.and (Bool.and (!decide (sp < 0)) (Bool.and (!decide (dp < 0)) (!decide (n < 0)))) (Bool.and (Bool.and (Nat.ble (sp.toNatClampNeg + n.toNatClampNeg) f.length) (Nat.ble (dp.toNatClampNeg + n.toNatClampNeg) f1.length)) (Nat.ble (zwd r) 8))) with
        | false => rw [hb] at hf; cases hf
        | true =>
          rw [hb] at hf
          obtain ⟨b1, b2⟩ := (Bool.and_eq_true _ _).mp hb
          obtain ⟨b11, b12⟩ := (Bool.and_eq_true _ _).mp b1
          obtain ⟨b21, b22⟩ := (Bool.and_eq_true _ _).mp b2
          obtain ⟨c1, c2⟩ := (Bool.and_eq_true _ _).mp b21
          obtain ⟨c2, c3⟩ := (Bool.and_eq_true _ _).mp c2
          obtain ⟨d1, d3⟩ := (Bool.and_eq_true _ _).mp b22
          obtain ⟨d1, d2⟩ := (Bool.and_eq_true _ _).mp d1
          simp only [Bool.not_eq_true', decide_eq_false_iff_not] at c1 c2 c3
          have d1 := Nat.le_of_ble_eq_true d1
          have d2 := Nat.le_of_ble_eq_true d2
          have d3 := Nat.le_of_ble_eq_true d3
          have e0 := Nat.eq_of_beq_eq_true b11
          have e1 := Nat.eq_of_beq_eq_true b12
          subst e0
          subst e1
          rw [zat_eq] at ho0 ho1
          refine ⟨(pc + 3, lo, r, mem.set a (.inl (t1, .inl (zcpl f f1 sp.toNatClampNeg dp.toNatClampNeg n.toNatClampNeg)))), hf, zle.set ho1 (by simp [zsz, zaz, zcpl_len]), ?_⟩
          intro n0 sl0 p e R s m args below meth c hC _ _ Q hW H locs ls h1 h2 hP hS hl
          have hsl : zsl (mem.set a (.inl (t1, .inl (zcpl f f1 sp.toNatClampNeg dp.toNatClampNeg n.toNatClampNeg)))) = zsl mem := zsl_set (c := .inl (t1, .inl f1)) (c' := .inl (t1, .inl (zcpl f f1 sp.toNatClampNeg dp.toNatClampNeg n.toNatClampNeg))) (by simp [zsz, zaz, zcpl_len]) mem a ho1
          have hle : (mem.set a (.inl (t1, .inl (zcpl f f1 sp.toNatClampNeg dp.toNatClampNeg n.toNatClampNeg)))).length = mem.length := by simp
          have hfr := hC.2.2.2.2.2.2.2.2.2.2.2
          have hb8 : ((r.map (zU X)).map fun v => v.category).sum ≤ 8 := by have e1 : ((r.map (zU X)).map fun v => v.category).sum = zwd r := zwd_m (zH X) (zx X) r; omega
          have hnf : nativeFrameWords "java/lang/System" "arraycopy" 5 + 11 ≤ 40 := by decide +kernel
          refine va_copyi hC.1 hC.2.1 (hC.2.2.1.trans hl.1.symm) hC.2.2.2.1 (hC.2.2.2.2.1 _ hw) (hC.2.2.2.2.1 _ hw2) (hC.2.2.2.2.1 _ hw3) (hC.2.2.2.2.1 _ hw4) hC.2.2.2.2.2.1 hP (zws_D _ _ _ _) hS a0 a t1 t1 (zwa_i ho0) (zwa_i ho1) (zTy_at ht) (zTy_at ht) rfl c1 c2 c3 d1 d2 (fun _ _ => rfl) (by omega) (by omega) hd (fun H1 locs1 q1 _ q2 => ?_)
          have e1 : (zWs X mem).set a (zH X + a, .inl (zK X t1, f1.length, .inl (va_cpy (fun j => f.getD j 0) (fun j => f1.getD j 0) sp.toNatClampNeg dp.toNatClampNeg n.toNatClampNeg))) = zWs X (mem.set a (.inl (t1, .inl (zcpl f f1 sp.toNatClampNeg dp.toNatClampNeg n.toNatClampNeg)))) := by
            show _ = zws (zH X) (zx X) (zK X) 0 (mem.set a (.inl (t1, .inl (zcpl f f1 sp.toNatClampNeg dp.toNatClampNeg n.toNatClampNeg))))
            rw [zws_set, Nat.zero_add]
            simp only [zue, zua, zcpl_len]
            rw [zcpl_s d2]
          rw [e1] at q1
          have := hW H1 locs1 ls (by show n0 ≤ (mem.set a (.inl (t1, .inl (zcpl f f1 sp.toNatClampNeg dp.toNatClampNeg n.toNatClampNeg)))).length; rw [hle]; exact h1) (by show sl0 ≤ zsl (mem.set a (.inl (t1, .inl (zcpl f f1 sp.toNatClampNeg dp.toNatClampNeg n.toNatClampNeg)))); rw [hsl]; exact h2) q1 q2 hl
          simp only [hle, hsl] at this
          exact this
      · cases hf
    · cases hf
  · cases hf
noncomputable def zmmax : zF := fun _ _ st κ _ => match st with
  | (pc, lo, sk, mem) => match sk with
  | .int y :: .int x :: r => Bool.rec none (κ (pc + 3, lo, .int (if x < y then y else x) :: r, mem)) (Nat.ble (zwd r) 8)
  | _ => none
theorem ok_mmax {idx : Nat} (hw : Cond.methodLink i.1.cls idx Lib.Math.max.name ∈ zTb g) (hw2 : Cond.static Lib.Math.max.name ∈ zTb g) (hw3 : Cond.initialized "java/lang/Math" ∈ zTb g) (hw4 : Cond.code Lib.Math.max.name Lib.Math.max.code 2 (some .int) ∈ zTb g) (hd : decode i.2.1 pc = .ok (.invokestatic idx, 3)) : zOk g i pc zmmax := by
  intro X hE d Y rec hrec lo sk mem κ ρ y hf
  left
  unfold zmmax at hf
  dsimp only at hf
  split at hf
  · next y x r =>
    cases hb : Nat.ble (zwd r) 8 with
    | false => rw [hb] at hf; cases hf
    | true =>
      rw [hb] at hf
      have b2 := Nat.le_of_ble_eq_true hb
      refine ⟨(pc + 3, lo, .int (if x < y then y else x) :: r, mem), hf, zle.rf, ?_⟩
      intro n0 sl0 p e R s m args below meth c hC hc1 hc2 Q hW H locs ls h1 h2 hP hS hl
      have hc1 : mem.length ≤ n0 + R.cells := hc1
      have hc2 : zsl mem ≤ sl0 + R.slots := hc2
      have hfr := hC.2.2.2.2.2.2.2.2.2.2.2
      have hb8 : ((r.map (zU X)).map fun v => v.category).sum ≤ 8 := by have e1 : ((r.map (zU X)).map fun v => v.category).sum = zwd r := zwd_m (zH X) (zx X) r; omega
      exact va_mmax hC.1 hC.2.1 (hC.2.2.1.trans hl.1.symm) hC.2.2.2.1 (hC.2.2.2.2.1 _ hw) (hC.2.2.2.2.1 _ hw2) (hC.2.2.2.2.1 _ hw3) (hC.2.2.2.2.1 _ hw4) (by omega) (by omega) (by show mem.length - n0 ≤ _; omega) (by show zsl mem - sl0 ≤ _; omega) hd (hW H locs ls h1 h2 hP hS hl)
  · cases hf
noncomputable def zmmin : zF := fun _ _ st κ _ => match st with
  | (pc, lo, sk, mem) => match sk with
  | .int y :: .int x :: r => Bool.rec none (κ (pc + 3, lo, .int (if y < x then y else x) :: r, mem)) (Nat.ble (zwd r) 8)
  | _ => none
theorem ok_mmin {idx : Nat} (hw : Cond.methodLink i.1.cls idx Lib.Math.min.name ∈ zTb g) (hw2 : Cond.static Lib.Math.min.name ∈ zTb g) (hw3 : Cond.initialized "java/lang/Math" ∈ zTb g) (hw4 : Cond.code Lib.Math.min.name Lib.Math.min.code 2 (some .int) ∈ zTb g) (hd : decode i.2.1 pc = .ok (.invokestatic idx, 3)) : zOk g i pc zmmin := by
  intro X hE d Y rec hrec lo sk mem κ ρ y hf
  left
  unfold zmmin at hf
  dsimp only at hf
  split at hf
  · next y x r =>
    cases hb : Nat.ble (zwd r) 8 with
    | false => rw [hb] at hf; cases hf
    | true =>
      rw [hb] at hf
      have b2 := Nat.le_of_ble_eq_true hb
      refine ⟨(pc + 3, lo, .int (if y < x then y else x) :: r, mem), hf, zle.rf, ?_⟩
      intro n0 sl0 p e R s m args below meth c hC hc1 hc2 Q hW H locs ls h1 h2 hP hS hl
      have hc1 : mem.length ≤ n0 + R.cells := hc1
      have hc2 : zsl mem ≤ sl0 + R.slots := hc2
      have hfr := hC.2.2.2.2.2.2.2.2.2.2.2
      have hb8 : ((r.map (zU X)).map fun v => v.category).sum ≤ 8 := by have e1 : ((r.map (zU X)).map fun v => v.category).sum = zwd r := zwd_m (zH X) (zx X) r; omega
      exact va_mmin hC.1 hC.2.1 (hC.2.2.1.trans hl.1.symm) hC.2.2.2.1 (hC.2.2.2.2.1 _ hw) (hC.2.2.2.2.1 _ hw2) (hC.2.2.2.2.1 _ hw3) (hC.2.2.2.2.1 _ hw4) (by omega) (by omega) (by show mem.length - n0 ≤ _; omega) (by show zsl mem - sl0 ≤ _; omega) hd (hW H locs ls h1 h2 hP hS hl)
  · cases hf
/-! what was there before: the text, its bytes, statics (abstract values .retAddr k: the machine's value is 'va_rf (zx X k)') -/
theorem zOk_sx {len : Nat} {gg : List Value → Option (List Value)} (h : ∀ (X : zX) (d n0 : Nat) (p : Program) (e : Env) (R : Room) (s : State) (m : MethodId) (args : Array Value) (below : List Frame) (meth : Method) (c : Code), zC g X i d n0 p R s m args meth c → ∀ sk sk' : List Value, gg sk = some sk' → ∀ (H : Heap) (locs : List Loc) (cells slots : Nat) (Q : State → Prop) (ls : Array Slot), va_S (fun q => zH X ≤ q) s.heap H locs →
    W p (zL X) e R s m args below meth c H locs cells slots Q (F0 m (pc + len) ls (sk'.map (zU X))) → W p (zL X) e R s m args below meth c H locs cells slots Q (F0 m pc ls (sk.map (zU X)))) : zOk g i pc (zst len gg) := by
  intro X hE d Y rec hrec lo sk mem κ ρ y hf
  left
  unfold zst at hf
  dsimp only at hf
  split at hf
  · next sk' hg =>
    refine ⟨(pc + len, lo, sk', mem), hf, zle.rf, ?_⟩
    intro n0 sl0 p e R s m args below meth c hC _ _ Q hW H locs ls h1 h2 hP hS hl
    exact h X d n0 p e R s m args below meth c hC sk sk' hg H locs _ _ Q ls hS (hW H locs ls h1 h2 hP hS hl)
  · cases hf
theorem zU_x {X : zX} {k a : Nat} (h : zx X k = some a) : zU X (.retAddr k) = .ref a := by
  show va_rf (zx X k) = _
  rw [h]
  rfl
theorem ok_ldcS {k idx : Nat} {tx : String} (hx : ∀ X U, zEx g X U → ∃ a, zx X k = some a ∧ vk_R i.1.cls idx tx a U) (hd : decode i.2.1 pc = .ok (.ldc idx, 2)) : zOk g i pc (zst 2 (zp (.retAddr k))) := zOk_st fun X d n0 p e R s m args below meth c hC sk sk' hg H locs cells slots Q ls kk => by
  cases hg
  obtain ⟨a, h1, h2⟩ := hx X s hC.2.2.2.2.2.2.1
  rw [List.map_cons, zU_x h1] at kk
  exact va_ldcS hC.1 hC.2.1 hC.2.2.2.1 h2 hd kk
def zlx (k : Nat) (len : Nat) : zF := fun _ _ st κ _ => match st with
  | (pc, lo, sk, mem) => match zlg lo k with
  | some (.retAddr x) => κ (pc + len, lo, .retAddr x :: sk, mem)
  | _ => none
theorem ok_aloadx {k : Fin 4} {j : Nat} (hd : decode i.2.1 pc = .ok (.aload_n k, 1)) (hj : (k : Nat) = j) : zOk g i pc (zlx j 1) := by
  intro X hE d Y rec hrec lo sk mem κ ρ y hf
  left
  unfold zlx at hf
  dsimp only at hf
  split at hf
  · next x hg =>
    refine ⟨(pc + 1, lo, .retAddr x :: sk, mem), hf, zle.rf, ?_⟩
    intro n0 sl0 p e R s m args below meth c hC _ _ Q hW H locs ls h1 h2 hP hS hl
    have hW := hW H locs ls h1 h2 hP hS hl
    have hg2 : ls[j]? = some (.val (zU X (.retAddr x))) := zlm_at hl hg
    cases hx : zx X x with
    | none =>
      have e1 : zU X (.retAddr x) = .null := by show va_rf (zx X x) = _; rw [hx]; rfl
      rw [e1] at hg2
      simp only [List.map_cons, e1] at hW
      exact lv_aload_nN hC.1 hC.2.1 hd hj hg2 hW
    | some a =>
      rw [zU_x hx] at hg2
      simp only [List.map_cons, zU_x hx] at hW
      exact lv_aload_n hC.1 hC.2.1 hd hj hg2 hW
  · cases hf
def zgx (q : Nat) (v : Value) (sk : List Value) : Option (List Value) := match sk with
  | .retAddr k :: r => bif Nat.beq k q then some (v :: r) else none
  | _ => none
theorem zgx_s {q : Nat} {v : Value} {sk sk' : List Value} (h : zgx q v sk = some sk') : ∃ r, sk = .retAddr q :: r ∧ sk' = v :: r := by
  unfold zgx at h
  split at h
  · next k r =>
    cases hb : Nat.beq k q with
    | false => rw [hb] at h; cases h
    | true =>
      rw [hb] at h
      have := Nat.eq_of_beq_eq_true hb
      subst this
      cases h
      exact ⟨r, rfl, rfl⟩
  · cases h
theorem ok_getx {k idx : Nat} {v : Value} {o n dd ref : String} (hx : ∀ X U, zEx g X U → ∃ a, zx X k = some a ∧ va_OF o n dd (zU X v) a (fun q => zH X ≤ q) U U.heap) (hr : ref = o) (hw : Cond.fieldLink i.1.cls idx ref n dd ∈ zTb g) (hd : decode i.2.1 pc = .ok (.getfield idx, 3)) : zOk g i pc (zst 3 (zgx k v)) := zOk_sx fun X d n0 p e R s m args below meth c hC sk sk' hg H locs cells slots Q ls hS kk => by
  obtain ⟨r, rfl, rfl⟩ := zgx_s hg
  obtain ⟨a, h1, h2⟩ := hx X s hC.2.2.2.2.2.2.1
  rw [List.map_cons, zU_x h1]
  exact vk_getf hC.1 hC.2.1 h2 hS hC.2.2.2.1 (hC.2.2.2.2.1 _ hw) (fun x h => by rw [hr]; exact h) hd kk
theorem ok_getst {idx : Nat} {v : Value} {o n dd ref : String} (hx : ∀ X U, zEx g X U → va_Z o n dd (zU X v) (fun q => zH X ≤ q) U U.heap) (hr : ref = o) (hw : Cond.fieldLink i.1.cls idx ref n dd ∈ zTb g) (hd : decode i.2.1 pc = .ok (.getstatic idx, 3)) : zOk g i pc (zst 3 (zp v)) := zOk_sx fun X d n0 p e R s m args below meth c hC sk sk' hg H locs cells slots Q ls hS kk => by
  cases hg
  exact va_gets hC.1 hC.2.1 (hx X s hC.2.2.2.2.2.2.1) hS hC.2.2.2.1 (hC.2.2.2.2.1 _ hw) (fun x h => by rw [hr]; exact h) hd kk
theorem ok_lenx {k N : Nat} {f : Nat → Value} (hx : ∀ X U, zEx g X U → ∃ a, zx X k = some a ∧ va_T .byte a N f (fun q => zH X ≤ q) U U.heap) {v : Int32} (hv : Int32.ofNat N = v) (hd : decode i.2.1 pc = .ok (.arraylength, 1)) : zOk g i pc (zst 1 (zgx k (.int v))) := zOk_sx fun X d n0 p e R s m args below meth c hC sk sk' hg H locs cells slots Q ls hS kk => by
  obtain ⟨r, rfl, rfl⟩ := zgx_s hg
  obtain ⟨a, h1, h2⟩ := hx X s hC.2.2.2.2.2.2.1
  rw [List.map_cons, zU_x h1]
  exact va_tlen hC.1 hC.2.1 h2 hS hv hd kk
noncomputable def zbx (q N : Nat) (f : Nat → Int32) (sk : List Value) : Option (List Value) := match sk with
  | .int x :: .retAddr k :: r => Bool.rec none (some (.int (f x.toNatClampNeg) :: r)) (Bool.and (Nat.beq k q) (zix x N))
  | _ => none
theorem ok_baloadx {k N : Nat} {f : Nat → Int32} (hx : ∀ X U, zEx g X U → ∃ a, zx X k = some a ∧ va_T .byte a N (fun j => .int (f j)) (fun q => zH X ≤ q) U U.heap) (hd : decode i.2.1 pc = .ok (.baload, 1)) : zOk g i pc (zst 1 (zbx k N f)) := zOk_sx fun X d n0 p e R s m args below meth c hC sk sk' hg H locs cells slots Q ls hS kk => by
  unfold zbx at hg
  split at hg
  · next x q r =>
    cases hb : Bool.and (Nat.beq q k) (zix x N) with
    | false => rw [hb] at hg; cases hg
    | true =>
      rw [hb] at hg
      cases hg
      obtain ⟨b1, b2⟩ := (Bool.and_eq_true _ _).mp hb
      have := Nat.eq_of_beq_eq_true b1
      subst this
      obtain ⟨a, h1, h2⟩ := hx X s hC.2.2.2.2.2.2.1
      rw [List.map_cons, List.map_cons, zU_x h1]
      exact va_tb hC.1 hC.2.1 h2 hS (zix_s b2) rfl hd kk
  · cases hg
def zi2c (sk : List Value) : Option (List Value) := match sk with
  | .int x :: r => some (.int (x.toUInt32 % 65536).toInt32 :: r)
  | _ => none
theorem ok_i2c (hd : decode i.2.1 pc = .ok (.i2c, 1)) : zOk g i pc (zst 1 zi2c) := zOk_st fun X d n0 p e R s m args below meth c hC sk sk' hg H locs cells slots Q ls k => by
  unfold zi2c at hg
  split at hg
  · cases hg; exact lv_i2c hC.1 hC.2.1 hd rfl k
  · cases hg
noncomputable def zrn (ty : FieldType) : zF := fun _ _ st _ ρ => match st with
  | (pc, lo, sk, mem) => match sk with
  | [.int x] => Bool.rec none (ρ (some (.int x)) mem) (decide (narrow ty (.int x) = .int x))
  | _ => none
theorem ok_nreturn {ty : FieldType} (hr : i.2.2.2 = some ty) (hd : decode i.2.1 pc = .ok (.ireturn, 1)) : zOk g i pc (zrn ty) := by
  intro X hE d Y rec hrec lo sk mem κ ρ y hf
  right
  unfold zrn at hf
  dsimp only at hf
  split at hf
  · next x =>
    cases hb : decide (narrow ty (.int x) = .int x) with
    | false => rw [hb] at hf; cases hf
    | true =>
      rw [hb] at hf
      refine ⟨some (.int x), mem, hf, zle.rf, ?_⟩
      intro n0 sl0 p e R s m args below meth c hC H locs ls h1 h2 hP hS hl
      exact W.zret hC.1 hC.2.1 (hC.2.2.2.2.2.2.2.2.2.1.trans hr) (of_decide_eq_true hb) (fun t ht _ => z_ret (r := some (.int x)) hP hS t ht) (fun q hq => hS.2.2 q hq) hd (hlocks := hC.2.2.2.2.2.2.2.2.1)
  · cases hf
noncomputable def zcx (j n q : Nat) : zF := fun _ rec st κ _ => match st with
  | (pc, lo, sk, mem) => match zpp n [] sk with
  | some (As, .retAddr b :: rest) => Bool.rec none (rec j (.retAddr b :: As) mem (fun r mem' => κ (pc + 3, lo, r.toList ++ rest, mem'))) (Bool.and (Nat.beq b q) (Nat.ble (zwd rest) 8))
  | _ => none
theorem ok_callX {j n idx q : Nat} {k : zI} {C : String} (hk0 : zcal g j k n) (hx : ∀ X U, zEx g X U → ∃ a, zx X q = some a ∧ va_O C a (fun q => zH X ≤ q) U U.heap) (hw : Cond.methodLink i.1.cls idx k.1 ∈ zTb g) (hw2 : Cond.instanceMethod k.1 ∈ zTb g) (hw3 : Cond.selects C k.1 k.1 ∈ zTb g) (hd : decode i.2.1 pc = .ok (.invokevirtual idx, 3)) : zOk g i pc (zcx j n q) := by
  intro X hE d Y rec hrec lo sk mem κ ρ y hf
  left
  unfold zcx at hf
  dsimp only at hf
  split at hf
  · next As b rest hpp =>
    cases hb : Bool.and (Nat.beq b q) (Nat.ble (zwd rest) 8) with
    | false => rw [hb] at hf; cases hf
    | true =>
      rw [hb] at hf
      obtain ⟨b1, b2⟩ := (Bool.and_eq_true _ _).mp hb
      have hci := Nat.eq_of_beq_eq_true b1
      subst hci
      have b2 := Nat.le_of_ble_eq_true b2
      obtain ⟨hn, hsk⟩ := zpp_0 hpp
      obtain ⟨r, mem', hk, hle, hM⟩ := hrec j (.retAddr b :: As) mem _ y hf
      have hM := hM k hk0.1
      refine ⟨(pc + 3, lo, r.toList ++ rest, mem'), hk, hle, ?_⟩
      intro n0 sl0 p e R s m args below meth c hC hc1 hc2 Q hW H locs ls h1 h2 hP hS hl
      have hc1 : mem'.length ≤ n0 + R.cells := hc1
      have hc2 : zsl mem' ≤ sl0 + R.slots := hc2
      have h1 : n0 ≤ mem.length := h1
      have h2 : sl0 ≤ zsl mem := h2
      show W p (zL X) e R s m args below meth c H locs (mem.length - n0) (zsl mem - sl0) Q (F0 m pc ls (sk.map (zU X)))
      refine z_size (fun hz => ?_)
      have hge : zH X + mem.length ≤ H.size := z_ge (mem := mem) hP hS hC.2.2.2.2.2.2.2.1 h1
      have hsz : H.size = zH X + mem.length := by have := hC.2.2.2.2.2.2.2.1; omega
      obtain ⟨hl1, hl2, -⟩ := hle
      have hb8 : ((rest.map (zU X)).map fun v => v.category).sum ≤ 8 := by have e1 : ((rest.map (zU X)).map fun v => v.category).sum = zwd rest := zwd_m (zH X) (zx X) rest; omega
      have hfr := hC.2.2.2.2.2.2.2.2.2.2.2
      obtain ⟨a, hx1, hx2⟩ := hx X s hC.2.2.2.2.2.2.1
      have hpr : ∀ U : State, U.heap = H → s.WarmedH U.vm → va_Pc ((.retAddr b :: As).map (zU X)) (zPre g X mem) (Value.ref a :: As.map (zU X)).toArray U := fun U hU hw => ⟨by rw [List.map_cons, zU_x hx1], z_pre hE hC hsz hP hS U hU hw⟩
      obtain ⟨cell, o1, o2, o3, -⟩ := hx2.kept hS.2.1
      refine z_goes (r := r) (mem' := mem') (mc := mem'.length - mem.length) (ms := zsl mem' - zsl mem) (rest := rest.map (zU X)) rfl (va_runV (C := C) (As := As.map (zU X)) (b := a) ⟨hC.1, hC.2.1, hC.2.2.1, hC.2.2.2.1, hC.2.2.2.2.1⟩ hM ⟨(callB_of (ret := k.2.2.2) n hC.2.2.2.2.1 (z_good hk0) rfl rfl rfl (hC.2.2.2.2.1 _ hk0.2.2.2.1) (hC.2.2.2.2.1 _ hw) hk0.2.2.2.2.1 ⟨by show d + 1 ≤ R.frames; omega, by show 8 + (k.2.2.1 + 11) + 64 * d ≤ R.locals; have := hk0.2.2.2.2.2; omega⟩), hC.2.2.2.2.1 _ hw2, hC.2.2.2.2.1 _ hw3⟩ ⟨z_blind hE _ _, ⟨cell, o1, o2, o3⟩, hpr⟩ rfl (by rw [List.length_map]; exact hn) hl.1 (by rw [hsk, List.map_append, List.map_cons, zU_x hx1, List.map_reverse]) (by show 2 * 0 + _ ≤ 8; omega) hd ⟨by omega, by omega⟩) hS (fun H1 locs1 q1 q2 => ?_)
      have := hW H1 locs1 ls (by show n0 ≤ mem'.length; omega) (by show sl0 ≤ zsl mem'; omega) q1 q2 hl
      rw [z_list]
      refine W.cs ?_ ?_ this
      · show _ = mem'.length - n0; omega
      · show _ = zsl mem' - sl0; omega
  · cases hf
end ZO
/-! a method's table of steps, a run, and that it is sound -/
abbrev zT : Type 1 := List (Nat × List (Nat × zF))
def zl0 : List (Nat × zF) → Nat → Option (Nat × zF)
  | [], _ => none
  | q :: r, pc => bif Nat.beq q.1 pc then some q else zl0 r pc
def zlk : zT → Nat → Option (Nat × zF)
  | [], _ => none
  | q :: r, pc => bif Nat.ble (pc + 1) q.1 then zl0 q.2 pc else zlk r pc
def zTok (g : zG) (i : zI) (t : zT) : Prop := ∀ c ∈ t, ∀ q ∈ c.2, zOk g i q.1 q.2
theorem zl0_s {g : zG} {i : zI} {pc : Nat} {f : Nat × zF} : ∀ l : List (Nat × zF), (∀ q ∈ l, zOk g i q.1 q.2) → zl0 l pc = some f → f.1 = pc ∧ zOk g i pc f.2 := by
  intro l
  induction l with
  | nil => intro _ h; cases h
  | cons q r ih =>
    intro hq h
    unfold zl0 at h
    cases hb : Nat.beq q.1 pc with
    | true =>
      rw [hb] at h
      simp only [cond_true, Option.some.injEq] at h
      have := Nat.eq_of_beq_eq_true hb
      subst h
      subst this
      exact ⟨rfl, hq q List.mem_cons_self⟩
    | false =>
      rw [hb] at h
      exact ih (fun x hx => hq x (List.mem_cons_of_mem _ hx)) h
theorem zlk_s {g : zG} {i : zI} {pc : Nat} {f : Nat × zF} : ∀ t : zT, zTok g i t → zlk t pc = some f → f.1 = pc ∧ zOk g i pc f.2 := by
  intro t
  induction t with
  | nil => intro _ h; cases h
  | cons q r ih =>
    intro hq h
    unfold zlk at h
    cases hb : Nat.ble (pc + 1) q.1 with
    | true =>
      rw [hb] at h
      exact zl0_s q.2 (hq q List.mem_cons_self) h
    | false =>
      rw [hb] at h
      exact ih (fun x hx => hq x (List.mem_cons_of_mem _ hx)) h
noncomputable def zgo {Y : Type} (t : zT) (rec : zRec Y) (ρ : Option Value → zM → Option Y) (n : Nat) : zS → Option Y :=
  Nat.rec (fun _ => none) (fun _ ih st => match st with
    | (pc, lo, sk, mem) => match zlk t pc with
      | none => none
      | some q => q.2 Y rec (q.1, lo, sk, mem) ih ρ) n
/-- the program: a method's locals (in words) and its table, by number -/
abbrev zPg : Type 1 := Nat → Option (Nat × zT)
noncomputable def zrun (P : zPg) (fuel : Nat) (d : Nat) : ∀ Y : Type, zRec Y :=
  Nat.rec (fun _ _ _ _ _ => none) (fun _ ih Y j av mem κ => match P j with
    | none => none
    | some t => Bool.rec none (zgo t.2 (ih Y) κ fuel (0, lv_args 0 av, [], mem)) (Nat.ble (zwd av) t.1)) d
theorem zgo_s {g : zG} {X : zX} {i : zI} {d : Nat} {Y : Type} {rec : zRec Y} {t : zT} {ρ : Option Value → zM → Option Y} (hE : zExOk g X) (ht : zTok g i t) (hrec : zRecOk g X d Y rec) {y : Y} : ∀ (n : Nat) (st : zS), zgo t rec ρ n st = some y → ∃ (r : Option Value) (mem' : zM), ρ r mem' = some y ∧ zle st.2.2.2 mem' ∧
    ∀ (n0 sl0 : Nat) (p : Program) (e : Env) (R : Room) (s : State) (m : MethodId) (args : Array Value) (below : List Frame) (meth : Method) (c : Code), zC g X i d n0 p R s m args meth c → mem'.length ≤ n0 + R.cells → zsl mem' ≤ sl0 + R.slots → zW g X i.2.2.1 n0 sl0 p e R s m args below meth c (zQf g X n0 sl0 below args s r mem') st := by
  intro n
  induction n with
  | zero => intro st h; cases h
  | succ n ih =>
    intro st h
    obtain ⟨pc, lo, sk, mem⟩ := st
    have h : (match zlk t pc with
      | none => none
      | some q => q.2 Y rec (q.1, lo, sk, mem) (zgo t rec ρ n) ρ) = some y := h
    split at h
    · cases h
    · next f hf =>
      obtain ⟨hpc, hok⟩ := zlk_s t ht hf
      rw [hpc] at h
      rcases hok X hE d Y rec hrec lo sk mem _ _ y h with ⟨st', h1, h2, h3⟩ | ⟨r, mem', h1, h2, h3⟩
      · obtain ⟨r, mem', k1, k2, k3⟩ := ih st' h1
        refine ⟨r, mem', k1, h2.tr k2, ?_⟩
        intro n0 sl0 p e R s m args below meth c hC hc1 hc2
        exact h3 n0 sl0 p e R s m args below meth c hC (Nat.le_trans k2.1 hc1) (Nat.le_trans k2.2.1 hc2) _ (k3 n0 sl0 p e R s m args below meth c hC hc1 hc2)
      · refine ⟨r, mem', h1, h2, ?_⟩
        intro n0 sl0 p e R s m args below meth c hC _ _
        exact h3 n0 sl0 p e R s m args below meth c hC
/-- every method of the program is one of the system's, its table sound -/
def zPok (g : zG) (P : zPg) : Prop := ∀ (j : Nat) (t : Nat × zT), P j = some t → ∃ i : zI, zMt g j = some i ∧ plainName i.1.cls = true ∧ i.2.2.1 = t.1 ∧ zTok g i t.2
theorem z_sound {g : zG} {X : zX} {P : zPg} {fuel : Nat} (hE : zExOk g X) (hP : zPok g P) : ∀ (d : Nat) (Y : Type), zRecOk g X d Y (zrun P fuel d Y) := by
  intro d
  induction d with
  | zero => intro Y j av mem κ y h; cases h
  | succ d ih =>
    intro Y j av mem κ y h
    have h : (match P j with
      | none => none
      | some t => Bool.rec none (zgo t.2 (zrun P fuel d Y) κ fuel (0, lv_args 0 av, [], mem)) (Nat.ble (zwd av) t.1)) = some y := h
    split at h
    · cases h
    · next t ht =>
      cases hb : Nat.ble (zwd av) t.1 with
      | false => rw [hb] at h; cases h
      | true =>
        rw [hb] at h
        have hwl := Nat.le_of_ble_eq_true hb
        obtain ⟨i, hi, hpn, hnl, hok⟩ := hP j t ht
        obtain ⟨r, mem', k1, k2, k3⟩ := zgo_s hE hok (ih Y) fuel _ h
        refine ⟨r, mem', k1, k2, ?_⟩
        intro i' hi'
        have hii : i' = i := Option.some.inj (hi'.symm.trans hi)
        subst hii
        refine Met.ofW (cc := i'.2.1) (maxL := i'.2.2.1) (ret := i'.2.2.2) hpn rfl ?_
        intro p e s m args below meth c s₁ B hml hv
        obtain ⟨rfl, g1, g2, g3, g4⟩ := hv
        have hts := atoms_spec (ws := zwo g i') B.pre
        have hl := lv_entry (av.map (zU X)) (n := i'.2.2.1) (by rw [zwd_sl]; have e1 : zwd (av.map (zU X)) = zwd av := zwd_m (zH X) (zx X) av; omega)
        rw [lg_entry_eq]
        generalize (lg_sl (av.map (zU X)) ++ List.replicate (i'.2.2.1 - (lg_sl (av.map (zU X))).length) Slot.unset).toArray = ls at hl ⊢
        rw [zlm_args] at hl
        have hC : zC g X i' d mem.length p (zrm (d + 1) mem mem') s m (av.map (zU X)).toArray meth c := ⟨B.exec, B.bytes, hml, findClass_of_methodNamed B.named, fun w hw => hts w (List.mem_cons_of_mem _ hw), g3, g4, g1, B.notSynchronized, B.returns, fun q => (name_of_methodNamed B.named B.method).1.trans q, Nat.le_refl _, Nat.le_refl _⟩
        have := k3 mem.length (zsl mem) p e (zrm (d + 1) mem mem') s m _ below meth c hC (by show mem'.length ≤ mem.length + (mem'.length - mem.length); have := k2.1; simp only at this; omega) (by show zsl mem' ≤ zsl mem + (zsl mem' - zsl mem); have := k2.2.1; simp only at this; omega) s.heap [] ls (Nat.le_refl _) (Nat.le_refl _) g2 va_S.rf hl
        refine W.cs ?_ ?_ this
        · show 0 = mem.length - mem.length; omega
        · show 0 = zsl mem - zsl mem; omega
end
