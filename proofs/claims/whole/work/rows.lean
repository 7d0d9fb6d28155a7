section
-- ===== PART A: goes FIRST, ahead of the names: the tables' words, and 'selects' of the private methods out of them =====
/-- a private method of a class that the tables say can be made, by its rows of tables_1 -/
def lw_okq (q : MethodName × Nat) : Prop := (q.1.cls ≠ "java/lang/invoke/MethodHandle" ∧ q.1.cls ≠ "java/lang/invoke/VarHandle") ∧ Cond.instantiable q.1.cls q.2 ∈ tables_1 ∧ Cond.privateMethod q.1 ∈ tables_1 ∧ Cond.instanceMethod q.1 ∈ tables_1
theorem lw_p0 : lw_okq (⟨"EndlessTug", "finding", "(I)I"⟩, 8) := ⟨⟨by decide +kernel, by decide +kernel⟩, List.mem_of_getElem? (i := 23) (by decide +kernel), List.mem_of_getElem? (i := 266) (by decide +kernel), List.mem_of_getElem? (i := 267) (by decide +kernel)⟩
theorem lw_p1 : lw_okq (⟨"EndlessTug$Green", "leadOfChapel", "()I"⟩, 7) := ⟨⟨by decide +kernel, by decide +kernel⟩, List.mem_of_getElem? (i := 31) (by decide +kernel), List.mem_of_getElem? (i := 480) (by decide +kernel), List.mem_of_getElem? (i := 481) (by decide +kernel)⟩
theorem lw_p2 : lw_okq (⟨"EndlessTug$Green", "moveKnot", "(I)V"⟩, 7) := ⟨⟨by decide +kernel, by decide +kernel⟩, List.mem_of_getElem? (i := 31) (by decide +kernel), List.mem_of_getElem? (i := 484) (by decide +kernel), List.mem_of_getElem? (i := 485) (by decide +kernel)⟩
theorem lw_p3 : lw_okq (⟨"EndlessTug$Green", "callOut", "(I)V"⟩, 7) := ⟨⟨by decide +kernel, by decide +kernel⟩, List.mem_of_getElem? (i := 31) (by decide +kernel), List.mem_of_getElem? (i := 500) (by decide +kernel), List.mem_of_getElem? (i := 501) (by decide +kernel)⟩
theorem lw_p4 : lw_okq (⟨"EndlessTug", "bestOrNone", "()I"⟩, 8) := ⟨⟨by decide +kernel, by decide +kernel⟩, List.mem_of_getElem? (i := 23) (by decide +kernel), List.mem_of_getElem? (i := 547) (by decide +kernel), List.mem_of_getElem? (i := 548) (by decide +kernel)⟩
theorem lw_p5 : lw_okq (⟨"EndlessTug$Tape", "lookAtNext", "()V"⟩, 6) := ⟨⟨by decide +kernel, by decide +kernel⟩, List.mem_of_getElem? (i := 183) (by decide +kernel), List.mem_of_getElem? (i := 612) (by decide +kernel), List.mem_of_getElem? (i := 613) (by decide +kernel)⟩
theorem lw_p6 : lw_okq (⟨"EndlessTug$Tape", "takeItem", "(LEndlessTug$Green;)Z"⟩, 6) := ⟨⟨by decide +kernel, by decide +kernel⟩, List.mem_of_getElem? (i := 183) (by decide +kernel), List.mem_of_getElem? (i := 619) (by decide +kernel), List.mem_of_getElem? (i := 620) (by decide +kernel)⟩
theorem lw_p7 : lw_okq (⟨"EndlessTug$Tape", "kindNamed", "()I"⟩, 6) := ⟨⟨by decide +kernel, by decide +kernel⟩, List.mem_of_getElem? (i := 183) (by decide +kernel), List.mem_of_getElem? (i := 623) (by decide +kernel), List.mem_of_getElem? (i := 624) (by decide +kernel)⟩
theorem lw_p8 : lw_okq (⟨"EndlessTug$Tape", "isWord", "(Ljava/lang/String;)Z"⟩, 6) := ⟨⟨by decide +kernel, by decide +kernel⟩, List.mem_of_getElem? (i := 183) (by decide +kernel), List.mem_of_getElem? (i := 628) (by decide +kernel), List.mem_of_getElem? (i := 629) (by decide +kernel)⟩
theorem lw_p9 : lw_okq (⟨"EndlessTug$Tape", "takePerson", "(LEndlessTug$Green;I)Z"⟩, 6) := ⟨⟨by decide +kernel, by decide +kernel⟩, List.mem_of_getElem? (i := 183) (by decide +kernel), List.mem_of_getElem? (i := 685) (by decide +kernel), List.mem_of_getElem? (i := 686) (by decide +kernel)⟩
theorem lw_p10 : lw_okq (⟨"EndlessTug$Tape", "takeSide", "()I"⟩, 6) := ⟨⟨by decide +kernel, by decide +kernel⟩, List.mem_of_getElem? (i := 183) (by decide +kernel), List.mem_of_getElem? (i := 690) (by decide +kernel), List.mem_of_getElem? (i := 691) (by decide +kernel)⟩
theorem lw_p11 : lw_okq (⟨"EndlessTug$Tape", "takeWord", "(Ljava/lang/String;)Z"⟩, 6) := ⟨⟨by decide +kernel, by decide +kernel⟩, List.mem_of_getElem? (i := 183) (by decide +kernel), List.mem_of_getElem? (i := 698) (by decide +kernel), List.mem_of_getElem? (i := 699) (by decide +kernel)⟩
theorem lw_p12 : lw_okq (⟨"EndlessTug$Tape", "takeNumber", "(II)Z"⟩, 6) := ⟨⟨by decide +kernel, by decide +kernel⟩, List.mem_of_getElem? (i := 183) (by decide +kernel), List.mem_of_getElem? (i := 702) (by decide +kernel), List.mem_of_getElem? (i := 703) (by decide +kernel)⟩
theorem lw_p13 : lw_okq (⟨"EndlessTug$Tape", "takeWeek", "(LEndlessTug$Green;I)Z"⟩, 6) := ⟨⟨by decide +kernel, by decide +kernel⟩, List.mem_of_getElem? (i := 183) (by decide +kernel), List.mem_of_getElem? (i := 709) (by decide +kernel), List.mem_of_getElem? (i := 710) (by decide +kernel)⟩
theorem lw_p14 : lw_okq (⟨"EndlessTug$Tape", "takeKnot", "(LEndlessTug$Green;)Z"⟩, 6) := ⟨⟨by decide +kernel, by decide +kernel⟩, List.mem_of_getElem? (i := 183) (by decide +kernel), List.mem_of_getElem? (i := 715) (by decide +kernel), List.mem_of_getElem? (i := 716) (by decide +kernel)⟩
theorem lw_p15 : lw_okq (⟨"EndlessTug$Tape", "takeSlack", "(LEndlessTug$Green;)Z"⟩, 6) := ⟨⟨by decide +kernel, by decide +kernel⟩, List.mem_of_getElem? (i := 183) (by decide +kernel), List.mem_of_getElem? (i := 720) (by decide +kernel), List.mem_of_getElem? (i := 721) (by decide +kernel)⟩
def lw_privs_1 : List (MethodName × Nat) := [(⟨"EndlessTug", "finding", "(I)I"⟩, 8), (⟨"EndlessTug$Green", "leadOfChapel", "()I"⟩, 7), (⟨"EndlessTug$Green", "moveKnot", "(I)V"⟩, 7), (⟨"EndlessTug$Green", "callOut", "(I)V"⟩, 7), (⟨"EndlessTug", "bestOrNone", "()I"⟩, 8), (⟨"EndlessTug$Tape", "lookAtNext", "()V"⟩, 6), (⟨"EndlessTug$Tape", "takeItem", "(LEndlessTug$Green;)Z"⟩, 6), (⟨"EndlessTug$Tape", "kindNamed", "()I"⟩, 6), (⟨"EndlessTug$Tape", "isWord", "(Ljava/lang/String;)Z"⟩, 6), (⟨"EndlessTug$Tape", "takePerson", "(LEndlessTug$Green;I)Z"⟩, 6), (⟨"EndlessTug$Tape", "takeSide", "()I"⟩, 6), (⟨"EndlessTug$Tape", "takeWord", "(Ljava/lang/String;)Z"⟩, 6), (⟨"EndlessTug$Tape", "takeNumber", "(II)Z"⟩, 6), (⟨"EndlessTug$Tape", "takeWeek", "(LEndlessTug$Green;I)Z"⟩, 6), (⟨"EndlessTug$Tape", "takeKnot", "(LEndlessTug$Green;)Z"⟩, 6), (⟨"EndlessTug$Tape", "takeSlack", "(LEndlessTug$Green;)Z"⟩, 6)]
theorem lw_r1 : ∀ q ∈ lw_privs_1, lw_okq q := List.forall_mem_cons.mpr ⟨lw_p0, List.forall_mem_cons.mpr ⟨lw_p1, List.forall_mem_cons.mpr ⟨lw_p2, List.forall_mem_cons.mpr ⟨lw_p3, List.forall_mem_cons.mpr ⟨lw_p4, List.forall_mem_cons.mpr ⟨lw_p5, List.forall_mem_cons.mpr ⟨lw_p6, List.forall_mem_cons.mpr ⟨lw_p7, List.forall_mem_cons.mpr ⟨lw_p8, List.forall_mem_cons.mpr ⟨lw_p9, List.forall_mem_cons.mpr ⟨lw_p10, List.forall_mem_cons.mpr ⟨lw_p11, List.forall_mem_cons.mpr ⟨lw_p12, List.forall_mem_cons.mpr ⟨lw_p13, List.forall_mem_cons.mpr ⟨lw_p14, List.forall_mem_cons.mpr ⟨lw_p15, fun _ h => absurd h List.not_mem_nil⟩⟩⟩⟩⟩⟩⟩⟩⟩⟩⟩⟩⟩⟩⟩⟩
theorem lw_p16 : lw_okq (⟨"EndlessTugModel", "becomes", "(II)I"⟩, 19) := ⟨⟨by decide +kernel, by decide +kernel⟩, List.mem_of_getElem? (i := 809) (by decide +kernel), List.mem_of_getElem? (i := 881) (by decide +kernel), List.mem_of_getElem? (i := 882) (by decide +kernel)⟩
theorem lw_p17 : lw_okq (⟨"EndlessTugModel", "no", "(I)I"⟩, 19) := ⟨⟨by decide +kernel, by decide +kernel⟩, List.mem_of_getElem? (i := 809) (by decide +kernel), List.mem_of_getElem? (i := 885) (by decide +kernel), List.mem_of_getElem? (i := 886) (by decide +kernel)⟩
theorem lw_p18 : lw_okq (⟨"EndlessTugModel", "weekNow", "()I"⟩, 19) := ⟨⟨by decide +kernel, by decide +kernel⟩, List.mem_of_getElem? (i := 809) (by decide +kernel), List.mem_of_getElem? (i := 905) (by decide +kernel), List.mem_of_getElem? (i := 906) (by decide +kernel)⟩
theorem lw_p19 : lw_okq (⟨"EndlessTugModel", "isHarvest", "()Z"⟩, 19) := ⟨⟨by decide +kernel, by decide +kernel⟩, List.mem_of_getElem? (i := 809) (by decide +kernel), List.mem_of_getElem? (i := 909) (by decide +kernel), List.mem_of_getElem? (i := 910) (by decide +kernel)⟩
theorem lw_p20 : lw_okq (⟨"EndlessTugModel", "isSunday", "()Z"⟩, 19) := ⟨⟨by decide +kernel, by decide +kernel⟩, List.mem_of_getElem? (i := 809) (by decide +kernel), List.mem_of_getElem? (i := 913) (by decide +kernel), List.mem_of_getElem? (i := 914) (by decide +kernel)⟩
theorem lw_p21 : lw_okq (⟨"EndlessTugModel", "aheadNow", "()I"⟩, 19) := ⟨⟨by decide +kernel, by decide +kernel⟩, List.mem_of_getElem? (i := 809) (by decide +kernel), List.mem_of_getElem? (i := 917) (by decide +kernel), List.mem_of_getElem? (i := 918) (by decide +kernel)⟩
theorem lw_p22 : lw_okq (⟨"EndlessTugModel", "onRope", "()I"⟩, 19) := ⟨⟨by decide +kernel, by decide +kernel⟩, List.mem_of_getElem? (i := 809) (by decide +kernel), List.mem_of_getElem? (i := 921) (by decide +kernel), List.mem_of_getElem? (i := 922) (by decide +kernel)⟩
theorem lw_p23 : lw_okq (⟨"EndlessTugModel", "get", "(II)I"⟩, 19) := ⟨⟨by decide +kernel, by decide +kernel⟩, List.mem_of_getElem? (i := 809) (by decide +kernel), List.mem_of_getElem? (i := 925) (by decide +kernel), List.mem_of_getElem? (i := 926) (by decide +kernel)⟩
theorem lw_p24 : lw_okq (⟨"EndlessTugModel", "sidePulls", "(I)I"⟩, 19) := ⟨⟨by decide +kernel, by decide +kernel⟩, List.mem_of_getElem? (i := 809) (by decide +kernel), List.mem_of_getElem? (i := 929) (by decide +kernel), List.mem_of_getElem? (i := 930) (by decide +kernel)⟩
theorem lw_p25 : lw_okq (⟨"EndlessTugModel", "pullsOf", "(I)I"⟩, 19) := ⟨⟨by decide +kernel, by decide +kernel⟩, List.mem_of_getElem? (i := 809) (by decide +kernel), List.mem_of_getElem? (i := 933) (by decide +kernel), List.mem_of_getElem? (i := 934) (by decide +kernel)⟩
theorem lw_p26 : lw_okq (⟨"EndlessTugModel", "addsPerson", "(II)V"⟩, 19) := ⟨⟨by decide +kernel, by decide +kernel⟩, List.mem_of_getElem? (i := 809) (by decide +kernel), List.mem_of_getElem? (i := 944) (by decide +kernel), List.mem_of_getElem? (i := 945) (by decide +kernel)⟩
theorem lw_p27 : lw_okq (⟨"EndlessTugModel", "puts", "(III)V"⟩, 19) := ⟨⟨by decide +kernel, by decide +kernel⟩, List.mem_of_getElem? (i := 809) (by decide +kernel), List.mem_of_getElem? (i := 948) (by decide +kernel), List.mem_of_getElem? (i := 949) (by decide +kernel)⟩
theorem lw_p28 : lw_okq (⟨"EndlessTugModel", "isPerson", "(I)Z"⟩, 19) := ⟨⟨by decide +kernel, by decide +kernel⟩, List.mem_of_getElem? (i := 809) (by decide +kernel), List.mem_of_getElem? (i := 956) (by decide +kernel), List.mem_of_getElem? (i := 957) (by decide +kernel)⟩
theorem lw_p29 : lw_okq (⟨"EndlessTugModel", "tiresOf", "(I)I"⟩, 19) := ⟨⟨by decide +kernel, by decide +kernel⟩, List.mem_of_getElem? (i := 809) (by decide +kernel), List.mem_of_getElem? (i := 960) (by decide +kernel), List.mem_of_getElem? (i := 961) (by decide +kernel)⟩
theorem lw_p30 : lw_okq (⟨"EndlessTugModel", "letsGo", "(I)Z"⟩, 19) := ⟨⟨by decide +kernel, by decide +kernel⟩, List.mem_of_getElem? (i := 809) (by decide +kernel), List.mem_of_getElem? (i := 964) (by decide +kernel), List.mem_of_getElem? (i := 965) (by decide +kernel)⟩
theorem lw_p31 : lw_okq (⟨"EndlessTugModel", "mayRelieve", "(II)Z"⟩, 19) := ⟨⟨by decide +kernel, by decide +kernel⟩, List.mem_of_getElem? (i := 809) (by decide +kernel), List.mem_of_getElem? (i := 984) (by decide +kernel), List.mem_of_getElem? (i := 985) (by decide +kernel)⟩
def lw_privs_2 : List (MethodName × Nat) := [(⟨"EndlessTugModel", "becomes", "(II)I"⟩, 19), (⟨"EndlessTugModel", "no", "(I)I"⟩, 19), (⟨"EndlessTugModel", "weekNow", "()I"⟩, 19), (⟨"EndlessTugModel", "isHarvest", "()Z"⟩, 19), (⟨"EndlessTugModel", "isSunday", "()Z"⟩, 19), (⟨"EndlessTugModel", "aheadNow", "()I"⟩, 19), (⟨"EndlessTugModel", "onRope", "()I"⟩, 19), (⟨"EndlessTugModel", "get", "(II)I"⟩, 19), (⟨"EndlessTugModel", "sidePulls", "(I)I"⟩, 19), (⟨"EndlessTugModel", "pullsOf", "(I)I"⟩, 19), (⟨"EndlessTugModel", "addsPerson", "(II)V"⟩, 19), (⟨"EndlessTugModel", "puts", "(III)V"⟩, 19), (⟨"EndlessTugModel", "isPerson", "(I)Z"⟩, 19), (⟨"EndlessTugModel", "tiresOf", "(I)I"⟩, 19), (⟨"EndlessTugModel", "letsGo", "(I)Z"⟩, 19), (⟨"EndlessTugModel", "mayRelieve", "(II)Z"⟩, 19)]
theorem lw_r2 : ∀ q ∈ lw_privs_2, lw_okq q := List.forall_mem_cons.mpr ⟨lw_p16, List.forall_mem_cons.mpr ⟨lw_p17, List.forall_mem_cons.mpr ⟨lw_p18, List.forall_mem_cons.mpr ⟨lw_p19, List.forall_mem_cons.mpr ⟨lw_p20, List.forall_mem_cons.mpr ⟨lw_p21, List.forall_mem_cons.mpr ⟨lw_p22, List.forall_mem_cons.mpr ⟨lw_p23, List.forall_mem_cons.mpr ⟨lw_p24, List.forall_mem_cons.mpr ⟨lw_p25, List.forall_mem_cons.mpr ⟨lw_p26, List.forall_mem_cons.mpr ⟨lw_p27, List.forall_mem_cons.mpr ⟨lw_p28, List.forall_mem_cons.mpr ⟨lw_p29, List.forall_mem_cons.mpr ⟨lw_p30, List.forall_mem_cons.mpr ⟨lw_p31, fun _ h => absurd h List.not_mem_nil⟩⟩⟩⟩⟩⟩⟩⟩⟩⟩⟩⟩⟩⟩⟩⟩
theorem lw_p32 : lw_okq (⟨"EndlessTugModel", "relieves", "(II)V"⟩, 19) := ⟨⟨by decide +kernel, by decide +kernel⟩, List.mem_of_getElem? (i := 809) (by decide +kernel), List.mem_of_getElem? (i := 988) (by decide +kernel), List.mem_of_getElem? (i := 989) (by decide +kernel)⟩
theorem lw_p33 : lw_okq (⟨"EndlessTugModel", "goes", "(I)V"⟩, 19) := ⟨⟨by decide +kernel, by decide +kernel⟩, List.mem_of_getElem? (i := 809) (by decide +kernel), List.mem_of_getElem? (i := 997) (by decide +kernel), List.mem_of_getElem? (i := 998) (by decide +kernel)⟩
theorem lw_p34 : lw_okq (⟨"EndlessTugModel", "knotGoes", "()V"⟩, 19) := ⟨⟨by decide +kernel, by decide +kernel⟩, List.mem_of_getElem? (i := 809) (by decide +kernel), List.mem_of_getElem? (i := 1001) (by decide +kernel), List.mem_of_getElem? (i := 1002) (by decide +kernel)⟩
theorem lw_p35 : lw_okq (⟨"EndlessTugModel", "livesOn", "(I)V"⟩, 19) := ⟨⟨by decide +kernel, by decide +kernel⟩, List.mem_of_getElem? (i := 809) (by decide +kernel), List.mem_of_getElem? (i := 1008) (by decide +kernel), List.mem_of_getElem? (i := 1009) (by decide +kernel)⟩
theorem lw_p36 : lw_okq (⟨"EndlessTugModel", "someComes", "(I)V"⟩, 19) := ⟨⟨by decide +kernel, by decide +kernel⟩, List.mem_of_getElem? (i := 809) (by decide +kernel), List.mem_of_getElem? (i := 1012) (by decide +kernel), List.mem_of_getElem? (i := 1013) (by decide +kernel)⟩
theorem lw_p37 : lw_okq (⟨"EndlessTugModel", "setsAside", "()V"⟩, 19) := ⟨⟨by decide +kernel, by decide +kernel⟩, List.mem_of_getElem? (i := 809) (by decide +kernel), List.mem_of_getElem? (i := 1020) (by decide +kernel), List.mem_of_getElem? (i := 1021) (by decide +kernel)⟩
theorem lw_p38 : lw_okq (⟨"EndlessTugModel", "laysBack", "()V"⟩, 19) := ⟨⟨by decide +kernel, by decide +kernel⟩, List.mem_of_getElem? (i := 809) (by decide +kernel), List.mem_of_getElem? (i := 1024) (by decide +kernel), List.mem_of_getElem? (i := 1025) (by decide +kernel)⟩
theorem lw_p39 : lw_okq (⟨"EndlessTugModel", "towards", "(I)I"⟩, 19) := ⟨⟨by decide +kernel, by decide +kernel⟩, List.mem_of_getElem? (i := 809) (by decide +kernel), List.mem_of_getElem? (i := 1036) (by decide +kernel), List.mem_of_getElem? (i := 1037) (by decide +kernel)⟩
theorem lw_p40 : lw_okq (⟨"EndlessTugModel", "towardsBy", "(II)I"⟩, 19) := ⟨⟨by decide +kernel, by decide +kernel⟩, List.mem_of_getElem? (i := 809) (by decide +kernel), List.mem_of_getElem? (i := 1052) (by decide +kernel), List.mem_of_getElem? (i := 1053) (by decide +kernel)⟩
theorem lw_p41 : lw_okq (⟨"EndlessTugModel", "nextToken", "()V"⟩, 19) := ⟨⟨by decide +kernel, by decide +kernel⟩, List.mem_of_getElem? (i := 809) (by decide +kernel), List.mem_of_getElem? (i := 1095) (by decide +kernel), List.mem_of_getElem? (i := 1096) (by decide +kernel)⟩
theorem lw_p42 : lw_okq (⟨"EndlessTugModel", "readsItem", "()Z"⟩, 19) := ⟨⟨by decide +kernel, by decide +kernel⟩, List.mem_of_getElem? (i := 809) (by decide +kernel), List.mem_of_getElem? (i := 1111) (by decide +kernel), List.mem_of_getElem? (i := 1112) (by decide +kernel)⟩
theorem lw_p43 : lw_okq (⟨"EndlessTugModel", "wordOf", "([C)I"⟩, 19) := ⟨⟨by decide +kernel, by decide +kernel⟩, List.mem_of_getElem? (i := 809) (by decide +kernel), List.mem_of_getElem? (i := 1115) (by decide +kernel), List.mem_of_getElem? (i := 1116) (by decide +kernel)⟩
theorem lw_p44 : lw_okq (⟨"EndlessTugModel", "readsPerson", "(I)Z"⟩, 19) := ⟨⟨by decide +kernel, by decide +kernel⟩, List.mem_of_getElem? (i := 809) (by decide +kernel), List.mem_of_getElem? (i := 1119) (by decide +kernel), List.mem_of_getElem? (i := 1120) (by decide +kernel)⟩
theorem lw_p45 : lw_okq (⟨"EndlessTugModel", "takesNumber", "(II)I"⟩, 19) := ⟨⟨by decide +kernel, by decide +kernel⟩, List.mem_of_getElem? (i := 809) (by decide +kernel), List.mem_of_getElem? (i := 1123) (by decide +kernel), List.mem_of_getElem? (i := 1124) (by decide +kernel)⟩
theorem lw_p46 : lw_okq (⟨"EndlessTugModel", "readsWeek", "(Z)Z"⟩, 19) := ⟨⟨by decide +kernel, by decide +kernel⟩, List.mem_of_getElem? (i := 809) (by decide +kernel), List.mem_of_getElem? (i := 1127) (by decide +kernel), List.mem_of_getElem? (i := 1128) (by decide +kernel)⟩
theorem lw_p47 : lw_okq (⟨"EndlessTugModel", "readsKnot", "()Z"⟩, 19) := ⟨⟨by decide +kernel, by decide +kernel⟩, List.mem_of_getElem? (i := 809) (by decide +kernel), List.mem_of_getElem? (i := 1131) (by decide +kernel), List.mem_of_getElem? (i := 1132) (by decide +kernel)⟩
def lw_privs_3 : List (MethodName × Nat) := [(⟨"EndlessTugModel", "relieves", "(II)V"⟩, 19), (⟨"EndlessTugModel", "goes", "(I)V"⟩, 19), (⟨"EndlessTugModel", "knotGoes", "()V"⟩, 19), (⟨"EndlessTugModel", "livesOn", "(I)V"⟩, 19), (⟨"EndlessTugModel", "someComes", "(I)V"⟩, 19), (⟨"EndlessTugModel", "setsAside", "()V"⟩, 19), (⟨"EndlessTugModel", "laysBack", "()V"⟩, 19), (⟨"EndlessTugModel", "towards", "(I)I"⟩, 19), (⟨"EndlessTugModel", "towardsBy", "(II)I"⟩, 19), (⟨"EndlessTugModel", "nextToken", "()V"⟩, 19), (⟨"EndlessTugModel", "readsItem", "()Z"⟩, 19), (⟨"EndlessTugModel", "wordOf", "([C)I"⟩, 19), (⟨"EndlessTugModel", "readsPerson", "(I)Z"⟩, 19), (⟨"EndlessTugModel", "takesNumber", "(II)I"⟩, 19), (⟨"EndlessTugModel", "readsWeek", "(Z)Z"⟩, 19), (⟨"EndlessTugModel", "readsKnot", "()Z"⟩, 19)]
theorem lw_r3 : ∀ q ∈ lw_privs_3, lw_okq q := List.forall_mem_cons.mpr ⟨lw_p32, List.forall_mem_cons.mpr ⟨lw_p33, List.forall_mem_cons.mpr ⟨lw_p34, List.forall_mem_cons.mpr ⟨lw_p35, List.forall_mem_cons.mpr ⟨lw_p36, List.forall_mem_cons.mpr ⟨lw_p37, List.forall_mem_cons.mpr ⟨lw_p38, List.forall_mem_cons.mpr ⟨lw_p39, List.forall_mem_cons.mpr ⟨lw_p40, List.forall_mem_cons.mpr ⟨lw_p41, List.forall_mem_cons.mpr ⟨lw_p42, List.forall_mem_cons.mpr ⟨lw_p43, List.forall_mem_cons.mpr ⟨lw_p44, List.forall_mem_cons.mpr ⟨lw_p45, List.forall_mem_cons.mpr ⟨lw_p46, List.forall_mem_cons.mpr ⟨lw_p47, fun _ h => absurd h List.not_mem_nil⟩⟩⟩⟩⟩⟩⟩⟩⟩⟩⟩⟩⟩⟩⟩⟩
theorem lw_p48 : lw_okq (⟨"EndlessTugModel", "wrongSheet", "(I)I"⟩, 19) := ⟨⟨by decide +kernel, by decide +kernel⟩, List.mem_of_getElem? (i := 809) (by decide +kernel), List.mem_of_getElem? (i := 1146) (by decide +kernel), List.mem_of_getElem? (i := 1147) (by decide +kernel)⟩
theorem lw_p49 : lw_okq (⟨"EndlessTugModel", "told", "(II)J"⟩, 19) := ⟨⟨by decide +kernel, by decide +kernel⟩, List.mem_of_getElem? (i := 809) (by decide +kernel), List.mem_of_getElem? (i := 1150) (by decide +kernel), List.mem_of_getElem? (i := 1151) (by decide +kernel)⟩
theorem lw_p50 : lw_okq (⟨"EndlessTugModel", "tells", "(IIJ)V"⟩, 19) := ⟨⟨by decide +kernel, by decide +kernel⟩, List.mem_of_getElem? (i := 809) (by decide +kernel), List.mem_of_getElem? (i := 1154) (by decide +kernel), List.mem_of_getElem? (i := 1155) (by decide +kernel)⟩
theorem lw_p51 : lw_okq (⟨"EndlessTugModel", "isSo", "(I)Z"⟩, 19) := ⟨⟨by decide +kernel, by decide +kernel⟩, List.mem_of_getElem? (i := 809) (by decide +kernel), List.mem_of_getElem? (i := 1175) (by decide +kernel), List.mem_of_getElem? (i := 1176) (by decide +kernel)⟩
def lw_privs_4 : List (MethodName × Nat) := [(⟨"EndlessTugModel", "wrongSheet", "(I)I"⟩, 19), (⟨"EndlessTugModel", "told", "(II)J"⟩, 19), (⟨"EndlessTugModel", "tells", "(IIJ)V"⟩, 19), (⟨"EndlessTugModel", "isSo", "(I)Z"⟩, 19)]
theorem lw_r4 : ∀ q ∈ lw_privs_4, lw_okq q := List.forall_mem_cons.mpr ⟨lw_p48, List.forall_mem_cons.mpr ⟨lw_p49, List.forall_mem_cons.mpr ⟨lw_p50, List.forall_mem_cons.mpr ⟨lw_p51, fun _ h => absurd h List.not_mem_nil⟩⟩⟩⟩
def lw_privs : List (MethodName × Nat) := lw_privs_1 ++ (lw_privs_2 ++ (lw_privs_3 ++ (lw_privs_4)))
def lw_tbl : List Cond := k2_sels lw_privs ++ tables_1
theorem lw_privs_ok : ∀ q ∈ lw_privs, lw_okq q := by
  show ∀ q ∈ lw_privs_1 ++ (lw_privs_2 ++ (lw_privs_3 ++ (lw_privs_4))), lw_okq q
  exact List.forall_mem_append.mpr ⟨lw_r1, List.forall_mem_append.mpr ⟨lw_r2, List.forall_mem_append.mpr ⟨lw_r3, lw_r4⟩⟩⟩
end
section
def RX0 : String := "EndlessTug$Best"
def TX0 : u_T := fun k => match k with
  | 0 => ("EndlessTug$Best", "isAny", "Z", false)
  | 1 => ("EndlessTug$Best", "which", "I", false)
  | _ => ("EndlessTug$Best", "worth", "I", false)
def tyX0 : Nat → FieldType := fun k => match k with
  | 0 => .boolean
  | 1 => .int
  | _ => .int
theorem nmX0 : ∀ a, a < 3 → ∀ b, b < 3 → a ≠ b → (TX0 a).2.1 ≠ (TX0 b).2.1 := by decide +kernel
theorem tyX0_ok : ∀ k, k < 3 → parseFieldDescriptor (TX0 k).2.2.1 = some (tyX0 k) := by decide +kernel
abbrev cX0_init : ByteArray := prog_2_method_1_code
def yX0_init : MethodName := ⟨RX0, "<init>", "()V"⟩
abbrev cX0_clear : ByteArray := prog_2_method_2_code
def yX0_clear : MethodName := ⟨RX0, "clear", "()V"⟩
abbrev cX0_offer : ByteArray := prog_2_method_3_code
def yX0_offer : MethodName := ⟨RX0, "offer", "(II)V"⟩
def RX1 : String := "EndlessTug$Drinker"
def TX1 : u_T := fun k => match k with
  | _ => ("EndlessTug$Man", "number", "I", true)
def tyX1 : Nat → FieldType := fun k => match k with
  | _ => .int
theorem nmX1 : ∀ a, a < 1 → ∀ b, b < 1 → a ≠ b → (TX1 a).2.1 ≠ (TX1 b).2.1 := by decide +kernel
theorem tyX1_ok : ∀ k, k < 1 → parseFieldDescriptor (TX1 k).2.2.1 = some (tyX1 k) := by decide +kernel
abbrev cX1_init : ByteArray := prog_3_method_1_code
def yX1_init : MethodName := ⟨RX1, "<init>", "(I)V"⟩
abbrev cX1_isOf : ByteArray := prog_3_method_2_code
def yX1_isOf : MethodName := ⟨RX1, "isOf", "(I)Z"⟩
abbrev cX1_pull : ByteArray := prog_3_method_3_code
def yX1_pull : MethodName := ⟨RX1, "pull", "(LEndlessTug$Person;LEndlessTug$Green;)I"⟩
abbrev cX1_tire : ByteArray := prog_3_method_4_code
def yX1_tire : MethodName := ⟨RX1, "tire", "(LEndlessTug$Green;)I"⟩
abbrev cX1_letsGo : ByteArray := prog_3_method_5_code
def yX1_letsGo : MethodName := ⟨RX1, "letsGo", "(LEndlessTug$Person;LEndlessTug$Green;)Z"⟩
def RX2 : String := "EndlessTug$Green"
def TX2 : u_T := fun k => match k with
  | 0 => ("EndlessTug$Green", "day", "I", false)
  | 1 => ("EndlessTug$Green", "harvest", "I", false)
  | 2 => ("EndlessTug$Green", "knot", "I", false)
  | 3 => ("EndlessTug$Green", "slack", "I", false)
  | 4 => ("EndlessTug$Green", "size", "I", false)
  | 5 => ("EndlessTug$Green", "kinds", "[LEndlessTug$Man;", true)
  | _ => ("EndlessTug$Green", "people", "[LEndlessTug$Person;", true)
def tyX2 : Nat → FieldType := fun k => match k with
  | 0 => .int
  | 1 => .int
  | 2 => .int
  | 3 => .int
  | 4 => .int
  | 5 => .array (.object "EndlessTug$Man")
  | _ => .array (.object "EndlessTug$Person")
theorem nmX2 : ∀ a, a < 7 → ∀ b, b < 7 → a ≠ b → (TX2 a).2.1 ≠ (TX2 b).2.1 := by decide +kernel
theorem tyX2_ok : ∀ k, k < 7 → parseFieldDescriptor (TX2 k).2.2.1 = some (tyX2 k) := by decide +kernel
abbrev cX2_init : ByteArray := prog_4_method_1_code
def yX2_init : MethodName := ⟨RX2, "<init>", "()V"⟩
abbrev cX2_become : ByteArray := prog_4_method_2_code
def yX2_become : MethodName := ⟨RX2, "become", "(LEndlessTug$Green;)V"⟩
abbrev cX2_has : ByteArray := prog_4_method_3_code
def yX2_has : MethodName := ⟨RX2, "has", "(I)Z"⟩
abbrev cX2_isFull : ByteArray := prog_4_method_4_code
def yX2_isFull : MethodName := ⟨RX2, "isFull", "()Z"⟩
abbrev cX2_addOne : ByteArray := prog_4_method_5_code
def yX2_addOne : MethodName := ⟨RX2, "addOne", "(II)V"⟩
abbrev cX2_weekOfYear : ByteArray := prog_4_method_6_code
def yX2_weekOfYear : MethodName := ⟨RX2, "weekOfYear", "()I"⟩
abbrev cX2_isHarvest : ByteArray := prog_4_method_7_code
def yX2_isHarvest : MethodName := ⟨RX2, "isHarvest", "()Z"⟩
abbrev cX2_isSunday : ByteArray := prog_4_method_8_code
def yX2_isSunday : MethodName := ⟨RX2, "isSunday", "()Z"⟩
abbrev cX2_towards : ByteArray := prog_4_method_9_code
def yX2_towards : MethodName := ⟨RX2, "towards", "(I)I"⟩
abbrev cX2_sideAhead : ByteArray := prog_4_method_10_code
def yX2_sideAhead : MethodName := ⟨RX2, "sideAhead", "()I"⟩
abbrev cX2_setOn : ByteArray := prog_4_method_11_code
def yX2_setOn : MethodName := ⟨RX2, "setOn", "()I"⟩
abbrev cX2_setOff : ByteArray := prog_4_method_12_code
def yX2_setOff : MethodName := ⟨RX2, "setOff", "(I)I"⟩
abbrev cX2_pullOf : ByteArray := prog_4_method_13_code
def yX2_pullOf : MethodName := ⟨RX2, "pullOf", "(I)I"⟩
abbrev cX2_pullOfSet : ByteArray := prog_4_method_14_code
def yX2_pullOfSet : MethodName := ⟨RX2, "pullOfSet", "(I)I"⟩
abbrev cX2_sizeOf : ByteArray := prog_4_method_15_code
def yX2_sizeOf : MethodName := ⟨RX2, "sizeOf", "(I)I"⟩
abbrev cX2_tiredTogether : ByteArray := prog_4_method_16_code
def yX2_tiredTogether : MethodName := ⟨RX2, "tiredTogether", "()I"⟩
abbrev cX2_canSwap : ByteArray := prog_4_method_17_code
def yX2_canSwap : MethodName := ⟨RX2, "canSwap", "(II)Z"⟩
abbrev cX2_swap : ByteArray := prog_4_method_18_code
def yX2_swap : MethodName := ⟨RX2, "swap", "(II)V"⟩
abbrev cX2_go : ByteArray := prog_4_method_19_code
def yX2_go : MethodName := ⟨RX2, "go", "(I)V"⟩
abbrev cX2_goDay : ByteArray := prog_4_method_20_code
def yX2_goDay : MethodName := ⟨RX2, "goDay", "()V"⟩
abbrev cX2_leadOfChapel : ByteArray := prog_4_method_21_code
def yX2_leadOfChapel : MethodName := ⟨RX2, "leadOfChapel", "()I"⟩
abbrev cX2_moveKnot : ByteArray := prog_4_method_22_code
def yX2_moveKnot : MethodName := ⟨RX2, "moveKnot", "(I)V"⟩
abbrev cX2_callOut : ByteArray := prog_4_method_23_code
def yX2_callOut : MethodName := ⟨RX2, "callOut", "(I)V"⟩
abbrev cX2_goesAs : ByteArray := prog_4_method_24_code
def yX2_goesAs : MethodName := ⟨RX2, "goesAs", "(LEndlessTug$Sheet;)Z"⟩
def RX3 : String := "EndlessTug$Man"
def TX3 : u_T := fun k => match k with
  | _ => ("EndlessTug$Man", "number", "I", true)
def tyX3 : Nat → FieldType := fun k => match k with
  | _ => .int
theorem nmX3 : ∀ a, a < 1 → ∀ b, b < 1 → a ≠ b → (TX3 a).2.1 ≠ (TX3 b).2.1 := by decide +kernel
theorem tyX3_ok : ∀ k, k < 1 → parseFieldDescriptor (TX3 k).2.2.1 = some (tyX3 k) := by decide +kernel
abbrev cX3_init : ByteArray := prog_5_method_1_code
def yX3_init : MethodName := ⟨RX3, "<init>", "(I)V"⟩
abbrev cX3_isOf : ByteArray := prog_5_method_2_code
def yX3_isOf : MethodName := ⟨RX3, "isOf", "(I)Z"⟩
abbrev cX3_pull : ByteArray := prog_5_method_3_code
def yX3_pull : MethodName := ⟨RX3, "pull", "(LEndlessTug$Person;LEndlessTug$Green;)I"⟩
abbrev cX3_tire : ByteArray := prog_5_method_4_code
def yX3_tire : MethodName := ⟨RX3, "tire", "(LEndlessTug$Green;)I"⟩
abbrev cX3_letsGo : ByteArray := prog_5_method_5_code
def yX3_letsGo : MethodName := ⟨RX3, "letsGo", "(LEndlessTug$Person;LEndlessTug$Green;)Z"⟩
def RX4 : String := "EndlessTug$Person"
def TX4 : u_T := fun k => match k with
  | 0 => ("EndlessTug$Person", "kind", "LEndlessTug$Man;", false)
  | 1 => ("EndlessTug$Person", "side", "I", false)
  | 2 => ("EndlessTug$Person", "on", "I", false)
  | 3 => ("EndlessTug$Person", "tired", "I", false)
  | _ => ("EndlessTug$Person", "strong", "I", false)
def tyX4 : Nat → FieldType := fun k => match k with
  | 0 => .object "EndlessTug$Man"
  | 1 => .int
  | 2 => .int
  | 3 => .int
  | _ => .int
theorem nmX4 : ∀ a, a < 5 → ∀ b, b < 5 → a ≠ b → (TX4 a).2.1 ≠ (TX4 b).2.1 := by decide +kernel
theorem tyX4_ok : ∀ k, k < 5 → parseFieldDescriptor (TX4 k).2.2.1 = some (tyX4 k) := by decide +kernel
abbrev cX4_init : ByteArray := prog_6_method_1_code
def yX4_init : MethodName := ⟨RX4, "<init>", "(LEndlessTug$Man;)V"⟩
abbrev cX4_become : ByteArray := prog_6_method_2_code
def yX4_become : MethodName := ⟨RX4, "become", "(LEndlessTug$Person;)V"⟩
abbrev cX4_spendDay : ByteArray := prog_6_method_3_code
def yX4_spendDay : MethodName := ⟨RX4, "spendDay", "(LEndlessTug$Green;)V"⟩
def RX5 : String := "EndlessTug$Preacher"
def TX5 : u_T := fun k => match k with
  | _ => ("EndlessTug$Man", "number", "I", true)
def tyX5 : Nat → FieldType := fun k => match k with
  | _ => .int
theorem nmX5 : ∀ a, a < 1 → ∀ b, b < 1 → a ≠ b → (TX5 a).2.1 ≠ (TX5 b).2.1 := by decide +kernel
theorem tyX5_ok : ∀ k, k < 1 → parseFieldDescriptor (TX5 k).2.2.1 = some (tyX5 k) := by decide +kernel
abbrev cX5_init : ByteArray := prog_7_method_1_code
def yX5_init : MethodName := ⟨RX5, "<init>", "(I)V"⟩
abbrev cX5_isOf : ByteArray := prog_7_method_2_code
def yX5_isOf : MethodName := ⟨RX5, "isOf", "(I)Z"⟩
abbrev cX5_pull : ByteArray := prog_7_method_3_code
def yX5_pull : MethodName := ⟨RX5, "pull", "(LEndlessTug$Person;LEndlessTug$Green;)I"⟩
abbrev cX5_tire : ByteArray := prog_7_method_4_code
def yX5_tire : MethodName := ⟨RX5, "tire", "(LEndlessTug$Green;)I"⟩
def RX6 : String := "EndlessTug$Sheet"
def TX6 : u_T := fun k => match k with
  | 0 => ("EndlessTug$Sheet", "bits", "I", false)
  | 1 => ("EndlessTug$Sheet", "size", "I", false)
  | _ => ("EndlessTug$Sheet", "numbers", "[J", true)
def tyX6 : Nat → FieldType := fun k => match k with
  | 0 => .int
  | 1 => .int
  | _ => .array .long
theorem nmX6 : ∀ a, a < 3 → ∀ b, b < 3 → a ≠ b → (TX6 a).2.1 ≠ (TX6 b).2.1 := by decide +kernel
theorem tyX6_ok : ∀ k, k < 3 → parseFieldDescriptor (TX6 k).2.2.1 = some (tyX6 k) := by decide +kernel
abbrev cX6_init : ByteArray := prog_8_method_1_code
def yX6_init : MethodName := ⟨RX6, "<init>", "()V"⟩
abbrev cX6_isMissing : ByteArray := prog_8_method_2_code
def yX6_isMissing : MethodName := ⟨RX6, "isMissing", "()Z"⟩
abbrev cX6_begin : ByteArray := prog_8_method_3_code
def yX6_begin : MethodName := ⟨RX6, "begin", "(II)V"⟩
abbrev cX6_holds : ByteArray := prog_8_method_4_code
def yX6_holds : MethodName := ⟨RX6, "holds", "(II)Z"⟩
abbrev cX6_put : ByteArray := prog_8_method_5_code
def yX6_put : MethodName := ⟨RX6, "put", "(IJ)V"⟩
def RX7 : String := "EndlessTug$Son"
def TX7 : u_T := fun k => match k with
  | _ => ("EndlessTug$Man", "number", "I", true)
def tyX7 : Nat → FieldType := fun k => match k with
  | _ => .int
theorem nmX7 : ∀ a, a < 1 → ∀ b, b < 1 → a ≠ b → (TX7 a).2.1 ≠ (TX7 b).2.1 := by decide +kernel
theorem tyX7_ok : ∀ k, k < 1 → parseFieldDescriptor (TX7 k).2.2.1 = some (tyX7 k) := by decide +kernel
abbrev cX7_init : ByteArray := prog_9_method_1_code
def yX7_init : MethodName := ⟨RX7, "<init>", "(I)V"⟩
abbrev cX7_isOf : ByteArray := prog_9_method_2_code
def yX7_isOf : MethodName := ⟨RX7, "isOf", "(I)Z"⟩
abbrev cX7_pull : ByteArray := prog_9_method_3_code
def yX7_pull : MethodName := ⟨RX7, "pull", "(LEndlessTug$Person;LEndlessTug$Green;)I"⟩
abbrev cX7_tire : ByteArray := prog_9_method_4_code
def yX7_tire : MethodName := ⟨RX7, "tire", "(LEndlessTug$Green;)I"⟩
abbrev cX7_letsGo : ByteArray := prog_9_method_5_code
def yX7_letsGo : MethodName := ⟨RX7, "letsGo", "(LEndlessTug$Person;LEndlessTug$Green;)Z"⟩
def RX8 : String := "EndlessTug$Stranger"
def TX8 : u_T := fun k => match k with
  | _ => ("EndlessTug$Man", "number", "I", true)
def tyX8 : Nat → FieldType := fun k => match k with
  | _ => .int
theorem nmX8 : ∀ a, a < 1 → ∀ b, b < 1 → a ≠ b → (TX8 a).2.1 ≠ (TX8 b).2.1 := by decide +kernel
theorem tyX8_ok : ∀ k, k < 1 → parseFieldDescriptor (TX8 k).2.2.1 = some (tyX8 k) := by decide +kernel
abbrev cX8_init : ByteArray := prog_10_method_1_code
def yX8_init : MethodName := ⟨RX8, "<init>", "(I)V"⟩
abbrev cX8_isOf : ByteArray := prog_10_method_2_code
def yX8_isOf : MethodName := ⟨RX8, "isOf", "(I)Z"⟩
abbrev cX8_pull : ByteArray := prog_10_method_3_code
def yX8_pull : MethodName := ⟨RX8, "pull", "(LEndlessTug$Person;LEndlessTug$Green;)I"⟩
abbrev cX8_tire : ByteArray := prog_10_method_4_code
def yX8_tire : MethodName := ⟨RX8, "tire", "(LEndlessTug$Green;)I"⟩
abbrev cX8_letsGo : ByteArray := prog_10_method_5_code
def yX8_letsGo : MethodName := ⟨RX8, "letsGo", "(LEndlessTug$Person;LEndlessTug$Green;)Z"⟩
def RX9 : String := "EndlessTug$Tape"
def TX9 : u_T := fun k => match k with
  | 0 => ("EndlessTug$Tape", "bytes", "[I", true)
  | 1 => ("EndlessTug$Tape", "size", "I", false)
  | 2 => ("EndlessTug$Tape", "sort", "I", false)
  | 3 => ("EndlessTug$Tape", "start", "I", false)
  | 4 => ("EndlessTug$Tape", "end", "I", false)
  | _ => ("EndlessTug$Tape", "taken", "I", false)
def tyX9 : Nat → FieldType := fun k => match k with
  | 0 => .array .int
  | 1 => .int
  | 2 => .int
  | 3 => .int
  | 4 => .int
  | _ => .int
theorem nmX9 : ∀ a, a < 6 → ∀ b, b < 6 → a ≠ b → (TX9 a).2.1 ≠ (TX9 b).2.1 := by decide +kernel
theorem tyX9_ok : ∀ k, k < 6 → parseFieldDescriptor (TX9 k).2.2.1 = some (tyX9 k) := by decide +kernel
abbrev cX9_init : ByteArray := prog_11_method_1_code
def yX9_init : MethodName := ⟨RX9, "<init>", "()V"⟩
abbrev cX9_add : ByteArray := prog_11_method_2_code
def yX9_add : MethodName := ⟨RX9, "add", "(I)V"⟩
abbrev cX9_tell : ByteArray := prog_11_method_3_code
def yX9_tell : MethodName := ⟨RX9, "tell", "(LEndlessTug$Green;)I"⟩
abbrev cX9_takeItem : ByteArray := prog_11_method_4_code
def yX9_takeItem : MethodName := ⟨RX9, "takeItem", "(LEndlessTug$Green;)Z"⟩
abbrev cX9_takePerson : ByteArray := prog_11_method_5_code
def yX9_takePerson : MethodName := ⟨RX9, "takePerson", "(LEndlessTug$Green;I)Z"⟩
abbrev cX9_takeWeek : ByteArray := prog_11_method_6_code
def yX9_takeWeek : MethodName := ⟨RX9, "takeWeek", "(LEndlessTug$Green;I)Z"⟩
abbrev cX9_takeKnot : ByteArray := prog_11_method_7_code
def yX9_takeKnot : MethodName := ⟨RX9, "takeKnot", "(LEndlessTug$Green;)Z"⟩
abbrev cX9_takeSlack : ByteArray := prog_11_method_8_code
def yX9_takeSlack : MethodName := ⟨RX9, "takeSlack", "(LEndlessTug$Green;)Z"⟩
abbrev cX9_takeSide : ByteArray := prog_11_method_9_code
def yX9_takeSide : MethodName := ⟨RX9, "takeSide", "()I"⟩
abbrev cX9_takeWord : ByteArray := prog_11_method_10_code
def yX9_takeWord : MethodName := ⟨RX9, "takeWord", "(Ljava/lang/String;)Z"⟩
abbrev cX9_takeNumber : ByteArray := prog_11_method_11_code
def yX9_takeNumber : MethodName := ⟨RX9, "takeNumber", "(II)Z"⟩
abbrev cX9_kindNamed : ByteArray := prog_11_method_12_code
def yX9_kindNamed : MethodName := ⟨RX9, "kindNamed", "()I"⟩
abbrev cX9_isWord : ByteArray := prog_11_method_13_code
def yX9_isWord : MethodName := ⟨RX9, "isWord", "(Ljava/lang/String;)Z"⟩
abbrev cX9_lookAtNext : ByteArray := prog_11_method_14_code
def yX9_lookAtNext : MethodName := ⟨RX9, "lookAtNext", "()V"⟩
abbrev cX9_sortOf : ByteArray := prog_11_method_15_code
def yX9_sortOf : MethodName := ⟨RX9, "sortOf", "(I)I"⟩
def RX10 : String := "EndlessTug$Woman"
def TX10 : u_T := fun k => match k with
  | _ => ("EndlessTug$Man", "number", "I", true)
def tyX10 : Nat → FieldType := fun k => match k with
  | _ => .int
theorem nmX10 : ∀ a, a < 1 → ∀ b, b < 1 → a ≠ b → (TX10 a).2.1 ≠ (TX10 b).2.1 := by decide +kernel
theorem tyX10_ok : ∀ k, k < 1 → parseFieldDescriptor (TX10 k).2.2.1 = some (tyX10 k) := by decide +kernel
abbrev cX10_init : ByteArray := prog_12_method_1_code
def yX10_init : MethodName := ⟨RX10, "<init>", "(I)V"⟩
abbrev cX10_isOf : ByteArray := prog_12_method_2_code
def yX10_isOf : MethodName := ⟨RX10, "isOf", "(I)Z"⟩
abbrev cX10_pull : ByteArray := prog_12_method_3_code
def yX10_pull : MethodName := ⟨RX10, "pull", "(LEndlessTug$Person;LEndlessTug$Green;)I"⟩
abbrev cX10_tire : ByteArray := prog_12_method_4_code
def yX10_tire : MethodName := ⟨RX10, "tire", "(LEndlessTug$Green;)I"⟩
abbrev cX10_letsGo : ByteArray := prog_12_method_5_code
def yX10_letsGo : MethodName := ⟨RX10, "letsGo", "(LEndlessTug$Person;LEndlessTug$Green;)Z"⟩
def RX11 : String := "EndlessTug"
def TX11 : u_T := fun k => match k with
  | 0 => ("EndlessTug", "green", "LEndlessTug$Green;", true)
  | 1 => ("EndlessTug", "trial", "LEndlessTug$Green;", true)
  | 2 => ("EndlessTug", "kept", "LEndlessTug$Green;", true)
  | 3 => ("EndlessTug", "isKept", "Z", false)
  | 4 => ("EndlessTug", "best", "LEndlessTug$Best;", true)
  | 5 => ("EndlessTug", "tape", "LEndlessTug$Tape;", true)
  | 6 => ("EndlessTug", "sheets", "[LEndlessTug$Sheet;", true)
  | _ => ("EndlessTug", "found", "[I", true)
def tyX11 : Nat → FieldType := fun k => match k with
  | 0 => .object "EndlessTug$Green"
  | 1 => .object "EndlessTug$Green"
  | 2 => .object "EndlessTug$Green"
  | 3 => .boolean
  | 4 => .object "EndlessTug$Best"
  | 5 => .object "EndlessTug$Tape"
  | 6 => .array (.object "EndlessTug$Sheet")
  | _ => .array .int
theorem nmX11 : ∀ a, a < 8 → ∀ b, b < 8 → a ≠ b → (TX11 a).2.1 ≠ (TX11 b).2.1 := by decide +kernel
theorem tyX11_ok : ∀ k, k < 8 → parseFieldDescriptor (TX11 k).2.2.1 = some (tyX11 k) := by decide +kernel
abbrev cX11_init : ByteArray := prog_1_method_1_code
def yX11_init : MethodName := ⟨RX11, "<init>", "()V"⟩
abbrev cX11_slack : ByteArray := prog_1_method_2_code
def yX11_slack : MethodName := ⟨RX11, "slack", "(I)I"⟩
abbrev cX11_harvest : ByteArray := prog_1_method_3_code
def yX11_harvest : MethodName := ⟨RX11, "harvest", "(I)I"⟩
abbrev cX11_knot : ByteArray := prog_1_method_4_code
def yX11_knot : MethodName := ⟨RX11, "knot", "(I)I"⟩
abbrev cX11_now : ByteArray := prog_1_method_5_code
def yX11_now : MethodName := ⟨RX11, "now", "(I)I"⟩
abbrev cX11_person : ByteArray := prog_1_method_6_code
def yX11_person : MethodName := ⟨RX11, "person", "(II)I"⟩
abbrev cX11_of : ByteArray := prog_1_method_7_code
def yX11_of : MethodName := ⟨RX11, "of", "(II)I"⟩
abbrev cX11_set : ByteArray := prog_1_method_8_code
def yX11_set : MethodName := ⟨RX11, "set", "(III)I"⟩
abbrev cX11_turn : ByteArray := prog_1_method_9_code
def yX11_turn : MethodName := ⟨RX11, "turn", "(II)I"⟩
abbrev cX11_as : ByteArray := prog_1_method_10_code
def yX11_as : MethodName := ⟨RX11, "as", "(II)I"⟩
abbrev cX11_relieve : ByteArray := prog_1_method_11_code
def yX11_relieve : MethodName := ⟨RX11, "relieve", "(II)I"⟩
abbrev cX11_days : ByteArray := prog_1_method_12_code
def yX11_days : MethodName := ⟨RX11, "days", "(I)I"⟩
abbrev cX11_on : ByteArray := prog_1_method_13_code
def yX11_on : MethodName := ⟨RX11, "on", "(II)I"⟩
abbrev cX11_then : ByteArray := prog_1_method_14_code
def yX11_then : MethodName := ⟨RX11, "then", "(III)I"⟩
abbrev cX11_wins : ByteArray := prog_1_method_15_code
def yX11_wins : MethodName := ⟨RX11, "wins", "(II)I"⟩
abbrev cX11_off : ByteArray := prog_1_method_16_code
def yX11_off : MethodName := ⟨RX11, "off", "(I)I"⟩
abbrev cX11_turns : ByteArray := prog_1_method_17_code
def yX11_turns : MethodName := ⟨RX11, "turns", "()I"⟩
abbrev cX11_spell : ByteArray := prog_1_method_18_code
def yX11_spell : MethodName := ⟨RX11, "spell", "(II)I"⟩
abbrev cX11_kind : ByteArray := prog_1_method_19_code
def yX11_kind : MethodName := ⟨RX11, "kind", "(II)I"⟩
abbrev cX11_week : ByteArray := prog_1_method_20_code
def yX11_week : MethodName := ⟨RX11, "week", "(II)I"⟩
abbrev cX11_strong : ByteArray := prog_1_method_21_code
def yX11_strong : MethodName := ⟨RX11, "strong", "(III)I"⟩
abbrev cX11_bears : ByteArray := prog_1_method_22_code
def yX11_bears : MethodName := ⟨RX11, "bears", "(II)I"⟩
abbrev cX11_fewest : ByteArray := prog_1_method_23_code
def yX11_fewest : MethodName := ⟨RX11, "fewest", "(I)I"⟩
abbrev cX11_traitor : ByteArray := prog_1_method_24_code
def yX11_traitor : MethodName := ⟨RX11, "traitor", "(I)I"⟩
abbrev cX11_feed : ByteArray := prog_1_method_25_code
def yX11_feed : MethodName := ⟨RX11, "feed", "(II)I"⟩
abbrev cX11_wipe : ByteArray := prog_1_method_26_code
def yX11_wipe : MethodName := ⟨RX11, "wipe", "()I"⟩
abbrev cX11_green : ByteArray := prog_1_method_27_code
def yX11_green : MethodName := ⟨RX11, "green", "()I"⟩
abbrev cX11_sheet : ByteArray := prog_1_method_28_code
def yX11_sheet : MethodName := ⟨RX11, "sheet", "(III)I"⟩
abbrev cX11_write : ByteArray := prog_1_method_29_code
def yX11_write : MethodName := ⟨RX11, "write", "(IIJ)J"⟩
abbrev cX11_copy : ByteArray := prog_1_method_30_code
def yX11_copy : MethodName := ⟨RX11, "copy", "(IIIII)I"⟩
abbrev cX11_lays : ByteArray := prog_1_method_31_code
def yX11_lays : MethodName := ⟨RX11, "lays", "(I)I"⟩
abbrev cX11_book : ByteArray := prog_1_method_32_code
def yX11_book : MethodName := ⟨RX11, "book", "(I)I"⟩
abbrev cX11_read : ByteArray := prog_1_method_33_code
def yX11_read : MethodName := ⟨RX11, "read", "(II)I"⟩
abbrev cX11_image : ByteArray := prog_1_method_34_code
def yX11_image : MethodName := ⟨RX11, "image", "()I"⟩
abbrev cX11_undo : ByteArray := prog_1_method_35_code
def yX11_undo : MethodName := ⟨RX11, "undo", "()I"⟩
abbrev cX11_tear : ByteArray := prog_1_method_36_code
def yX11_tear : MethodName := ⟨RX11, "tear", "()I"⟩
abbrev cX11_count : ByteArray := prog_1_method_37_code
def yX11_count : MethodName := ⟨RX11, "count", "(I)I"⟩
abbrev cX11_status : ByteArray := prog_1_method_38_code
def yX11_status : MethodName := ⟨RX11, "status", "(I)I"⟩
abbrev cX11_finding : ByteArray := prog_1_method_39_code
def yX11_finding : MethodName := ⟨RX11, "finding", "(I)I"⟩
abbrev cX11_bestOrNone : ByteArray := prog_1_method_40_code
def yX11_bestOrNone : MethodName := ⟨RX11, "bestOrNone", "()I"⟩
abbrev cX11_isWithin : ByteArray := prog_1_method_41_code
def yX11_isWithin : MethodName := ⟨RX11, "isWithin", "(III)Z"⟩
abbrev cX11_isKind : ByteArray := prog_1_method_42_code
def yX11_isKind : MethodName := ⟨RX11, "isKind", "(I)Z"⟩
abbrev cX11_isSide : ByteArray := prog_1_method_43_code
def yX11_isSide : MethodName := ⟨RX11, "isSide", "(I)Z"⟩
abbrev cX11_isSheet : ByteArray := prog_1_method_44_code
def yX11_isSheet : MethodName := ⟨RX11, "isSheet", "(I)Z"⟩
def RX12 : String := "EndlessTugModel"
def TX12 : u_T := fun k => match k with
  | 0 => ("EndlessTugModel", "s", "[I", true)
  | 1 => ("EndlessTugModel", "kept", "[I", true)
  | 2 => ("EndlessTugModel", "aside", "[I", true)
  | 3 => ("EndlessTugModel", "isKept", "Z", false)
  | 4 => ("EndlessTugModel", "found", "[I", true)
  | 5 => ("EndlessTugModel", "tape", "[I", true)
  | 6 => ("EndlessTugModel", "taped", "I", false)
  | 7 => ("EndlessTugModel", "token", "I", false)
  | 8 => ("EndlessTugModel", "begun", "I", false)
  | 9 => ("EndlessTugModel", "ended", "I", false)
  | 10 => ("EndlessTugModel", "value", "J", false)
  | 11 => ("EndlessTugModel", "letters", "[C", true)
  | 12 => ("EndlessTugModel", "sides", "[C", true)
  | 13 => ("EndlessTugModel", "more", "[C", true)
  | 14 => ("EndlessTugModel", "others", "[C", true)
  | 15 => ("EndlessTugModel", "widths", "[I", true)
  | 16 => ("EndlessTugModel", "sizes", "[I", true)
  | 17 => ("EndlessTugModel", "cells", "[J", true)
  | _ => ("EndlessTugModel", "carried", "[J", true)
def tyX12 : Nat → FieldType := fun k => match k with
  | 0 => .array .int
  | 1 => .array .int
  | 2 => .array .int
  | 3 => .boolean
  | 4 => .array .int
  | 5 => .array .int
  | 6 => .int
  | 7 => .int
  | 8 => .int
  | 9 => .int
  | 10 => .long
  | 11 => .array .char
  | 12 => .array .char
  | 13 => .array .char
  | 14 => .array .char
  | 15 => .array .int
  | 16 => .array .int
  | 17 => .array .long
  | _ => .array .long
theorem nmX12 : ∀ a, a < 19 → ∀ b, b < 19 → a ≠ b → (TX12 a).2.1 ≠ (TX12 b).2.1 := by decide +kernel
theorem tyX12_ok : ∀ k, k < 19 → parseFieldDescriptor (TX12 k).2.2.1 = some (tyX12 k) := by decide +kernel
abbrev cX12_init : ByteArray := prog_14_method_1_code
def yX12_init : MethodName := ⟨RX12, "<init>", "()V"⟩
abbrev cX12_no : ByteArray := prog_14_method_2_code
def yX12_no : MethodName := ⟨RX12, "no", "(I)I"⟩
abbrev cX12_in1 : ByteArray := prog_14_method_3_code
def yX12_in1 : MethodName := ⟨RX12, "in1", "(III)Z"⟩
abbrev cX12_isPerson : ByteArray := prog_14_method_6_code
def yX12_isPerson : MethodName := ⟨RX12, "isPerson", "(I)Z"⟩
abbrev cX12_isSide : ByteArray := prog_14_method_7_code
def yX12_isSide : MethodName := ⟨RX12, "isSide", "(I)Z"⟩
abbrev cX12_get : ByteArray := prog_14_method_8_code
def yX12_get : MethodName := ⟨RX12, "get", "(II)I"⟩
abbrev cX12_puts : ByteArray := prog_14_method_9_code
def yX12_puts : MethodName := ⟨RX12, "puts", "(III)V"⟩
abbrev cX12_setsAside : ByteArray := prog_14_method_10_code
def yX12_setsAside : MethodName := ⟨RX12, "setsAside", "()V"⟩
abbrev cX12_laysBack : ByteArray := prog_14_method_11_code
def yX12_laysBack : MethodName := ⟨RX12, "laysBack", "()V"⟩
abbrev cX12_isSunday : ByteArray := prog_14_method_12_code
def yX12_isSunday : MethodName := ⟨RX12, "isSunday", "()Z"⟩
abbrev cX12_weekNow : ByteArray := prog_14_method_13_code
def yX12_weekNow : MethodName := ⟨RX12, "weekNow", "()I"⟩
abbrev cX12_isHarvest : ByteArray := prog_14_method_14_code
def yX12_isHarvest : MethodName := ⟨RX12, "isHarvest", "()Z"⟩
abbrev cX12_aheadNow : ByteArray := prog_14_method_15_code
def yX12_aheadNow : MethodName := ⟨RX12, "aheadNow", "()I"⟩
abbrev cX12_pullsOf : ByteArray := prog_14_method_16_code
def yX12_pullsOf : MethodName := ⟨RX12, "pullsOf", "(I)I"⟩
abbrev cX12_tiresOf : ByteArray := prog_14_method_17_code
def yX12_tiresOf : MethodName := ⟨RX12, "tiresOf", "(I)I"⟩
abbrev cX12_letsGo : ByteArray := prog_14_method_18_code
def yX12_letsGo : MethodName := ⟨RX12, "letsGo", "(I)Z"⟩
abbrev cX12_sidePulls : ByteArray := prog_14_method_19_code
def yX12_sidePulls : MethodName := ⟨RX12, "sidePulls", "(I)I"⟩
abbrev cX12_held : ByteArray := prog_14_method_20_code
def yX12_held : MethodName := ⟨RX12, "held", "(III)I"⟩
abbrev cX12_knotGoes : ByteArray := prog_14_method_21_code
def yX12_knotGoes : MethodName := ⟨RX12, "knotGoes", "()V"⟩
abbrev cX12_livesOn : ByteArray := prog_14_method_22_code
def yX12_livesOn : MethodName := ⟨RX12, "livesOn", "(I)V"⟩
abbrev cX12_someComes : ByteArray := prog_14_method_23_code
def yX12_someComes : MethodName := ⟨RX12, "someComes", "(I)V"⟩
abbrev cX12_goes : ByteArray := prog_14_method_24_code
def yX12_goes : MethodName := ⟨RX12, "goes", "(I)V"⟩
abbrev cX12_towards : ByteArray := prog_14_method_25_code
def yX12_towards : MethodName := ⟨RX12, "towards", "(I)I"⟩
abbrev cX12_towardsBy : ByteArray := prog_14_method_26_code
def yX12_towardsBy : MethodName := ⟨RX12, "towardsBy", "(II)I"⟩
abbrev cX12_becomes : ByteArray := prog_14_method_27_code
def yX12_becomes : MethodName := ⟨RX12, "becomes", "(II)I"⟩
abbrev cX12_slack : ByteArray := prog_14_method_28_code
def yX12_slack : MethodName := ⟨RX12, "slack", "(I)I"⟩
abbrev cX12_harvest : ByteArray := prog_14_method_29_code
def yX12_harvest : MethodName := ⟨RX12, "harvest", "(I)I"⟩
abbrev cX12_isKnot : ByteArray := prog_14_method_30_code
def yX12_isKnot : MethodName := ⟨RX12, "isKnot", "(I)Z"⟩
abbrev cX12_knot : ByteArray := prog_14_method_31_code
def yX12_knot : MethodName := ⟨RX12, "knot", "(I)I"⟩
abbrev cX12_onRope : ByteArray := prog_14_method_32_code
def yX12_onRope : MethodName := ⟨RX12, "onRope", "()I"⟩
abbrev cX12_now : ByteArray := prog_14_method_33_code
def yX12_now : MethodName := ⟨RX12, "now", "(I)I"⟩
abbrev cX12_addsPerson : ByteArray := prog_14_method_34_code
def yX12_addsPerson : MethodName := ⟨RX12, "addsPerson", "(II)V"⟩
abbrev cX12_person : ByteArray := prog_14_method_35_code
def yX12_person : MethodName := ⟨RX12, "person", "(II)I"⟩
abbrev cX12_of : ByteArray := prog_14_method_36_code
def yX12_of : MethodName := ⟨RX12, "of", "(II)I"⟩
abbrev cX12_set : ByteArray := prog_14_method_37_code
def yX12_set : MethodName := ⟨RX12, "set", "(III)I"⟩
abbrev cX12_turn : ByteArray := prog_14_method_38_code
def yX12_turn : MethodName := ⟨RX12, "turn", "(II)I"⟩
abbrev cX12_as : ByteArray := prog_14_method_39_code
def yX12_as : MethodName := ⟨RX12, "as", "(II)I"⟩
abbrev cX12_mayRelieve : ByteArray := prog_14_method_40_code
def yX12_mayRelieve : MethodName := ⟨RX12, "mayRelieve", "(II)Z"⟩
abbrev cX12_relieves : ByteArray := prog_14_method_41_code
def yX12_relieves : MethodName := ⟨RX12, "relieves", "(II)V"⟩
abbrev cX12_relieve : ByteArray := prog_14_method_42_code
def yX12_relieve : MethodName := ⟨RX12, "relieve", "(II)I"⟩
abbrev cX12_days : ByteArray := prog_14_method_43_code
def yX12_days : MethodName := ⟨RX12, "days", "(I)I"⟩
abbrev cX12_on : ByteArray := prog_14_method_44_code
def yX12_on : MethodName := ⟨RX12, "on", "(II)I"⟩
abbrev cX12_then : ByteArray := prog_14_method_45_code
def yX12_then : MethodName := ⟨RX12, "then", "(III)I"⟩
abbrev cX12_wins : ByteArray := prog_14_method_46_code
def yX12_wins : MethodName := ⟨RX12, "wins", "(II)I"⟩
abbrev cX12_off : ByteArray := prog_14_method_47_code
def yX12_off : MethodName := ⟨RX12, "off", "(I)I"⟩
abbrev cX12_turns : ByteArray := prog_14_method_48_code
def yX12_turns : MethodName := ⟨RX12, "turns", "()I"⟩
abbrev cX12_spell : ByteArray := prog_14_method_49_code
def yX12_spell : MethodName := ⟨RX12, "spell", "(II)I"⟩
abbrev cX12_kind : ByteArray := prog_14_method_50_code
def yX12_kind : MethodName := ⟨RX12, "kind", "(II)I"⟩
abbrev cX12_week : ByteArray := prog_14_method_51_code
def yX12_week : MethodName := ⟨RX12, "week", "(II)I"⟩
abbrev cX12_strong : ByteArray := prog_14_method_52_code
def yX12_strong : MethodName := ⟨RX12, "strong", "(III)I"⟩
abbrev cX12_bears : ByteArray := prog_14_method_53_code
def yX12_bears : MethodName := ⟨RX12, "bears", "(II)I"⟩
abbrev cX12_ones : ByteArray := prog_14_method_54_code
def yX12_ones : MethodName := ⟨RX12, "ones", "(I)I"⟩
abbrev cX12_fewest : ByteArray := prog_14_method_55_code
def yX12_fewest : MethodName := ⟨RX12, "fewest", "(I)I"⟩
abbrev cX12_traitor : ByteArray := prog_14_method_56_code
def yX12_traitor : MethodName := ⟨RX12, "traitor", "(I)I"⟩
abbrev cX12_feed : ByteArray := prog_14_method_57_code
def yX12_feed : MethodName := ⟨RX12, "feed", "(II)I"⟩
abbrev cX12_wipe : ByteArray := prog_14_method_58_code
def yX12_wipe : MethodName := ⟨RX12, "wipe", "()I"⟩
abbrev cX12_isLetter : ByteArray := prog_14_method_59_code
def yX12_isLetter : MethodName := ⟨RX12, "isLetter", "(I)Z"⟩
abbrev cX12_isDigit : ByteArray := prog_14_method_60_code
def yX12_isDigit : MethodName := ⟨RX12, "isDigit", "(I)Z"⟩
abbrev cX12_nextToken : ByteArray := prog_14_method_61_code
def yX12_nextToken : MethodName := ⟨RX12, "nextToken", "()V"⟩
abbrev cX12_wordOf : ByteArray := prog_14_method_62_code
def yX12_wordOf : MethodName := ⟨RX12, "wordOf", "([C)I"⟩
abbrev cX12_takesNumber : ByteArray := prog_14_method_63_code
def yX12_takesNumber : MethodName := ⟨RX12, "takesNumber", "(II)I"⟩
abbrev cX12_readsPerson : ByteArray := prog_14_method_64_code
def yX12_readsPerson : MethodName := ⟨RX12, "readsPerson", "(I)Z"⟩
abbrev cX12_readsWeek : ByteArray := prog_14_method_65_code
def yX12_readsWeek : MethodName := ⟨RX12, "readsWeek", "(Z)Z"⟩
abbrev cX12_readsKnot : ByteArray := prog_14_method_66_code
def yX12_readsKnot : MethodName := ⟨RX12, "readsKnot", "()Z"⟩
abbrev cX12_readsItem : ByteArray := prog_14_method_67_code
def yX12_readsItem : MethodName := ⟨RX12, "readsItem", "()Z"⟩
abbrev cX12_green : ByteArray := prog_14_method_68_code
def yX12_green : MethodName := ⟨RX12, "green", "()I"⟩
abbrev cX12_isSheet : ByteArray := prog_14_method_69_code
def yX12_isSheet : MethodName := ⟨RX12, "isSheet", "(I)Z"⟩
abbrev cX12_wrongSheet : ByteArray := prog_14_method_70_code
def yX12_wrongSheet : MethodName := ⟨RX12, "wrongSheet", "(I)I"⟩
abbrev cX12_told : ByteArray := prog_14_method_71_code
def yX12_told : MethodName := ⟨RX12, "told", "(II)J"⟩
abbrev cX12_tells : ByteArray := prog_14_method_72_code
def yX12_tells : MethodName := ⟨RX12, "tells", "(IIJ)V"⟩
abbrev cX12_sheet : ByteArray := prog_14_method_73_code
def yX12_sheet : MethodName := ⟨RX12, "sheet", "(III)I"⟩
abbrev cX12_write : ByteArray := prog_14_method_74_code
def yX12_write : MethodName := ⟨RX12, "write", "(IIJ)J"⟩
abbrev cX12_copy : ByteArray := prog_14_method_75_code
def yX12_copy : MethodName := ⟨RX12, "copy", "(IIIII)I"⟩
abbrev cX12_lays : ByteArray := prog_14_method_76_code
def yX12_lays : MethodName := ⟨RX12, "lays", "(I)I"⟩
abbrev cX12_book : ByteArray := prog_14_method_77_code
def yX12_book : MethodName := ⟨RX12, "book", "(I)I"⟩
abbrev cX12_isSo : ByteArray := prog_14_method_78_code
def yX12_isSo : MethodName := ⟨RX12, "isSo", "(I)Z"⟩
abbrev cX12_read : ByteArray := prog_14_method_79_code
def yX12_read : MethodName := ⟨RX12, "read", "(II)I"⟩
abbrev cX12_image : ByteArray := prog_14_method_80_code
def yX12_image : MethodName := ⟨RX12, "image", "()I"⟩
abbrev cX12_undo : ByteArray := prog_14_method_81_code
def yX12_undo : MethodName := ⟨RX12, "undo", "()I"⟩
abbrev cX12_tear : ByteArray := prog_14_method_82_code
def yX12_tear : MethodName := ⟨RX12, "tear", "()I"⟩
abbrev cX12_count : ByteArray := prog_14_method_83_code
def yX12_count : MethodName := ⟨RX12, "count", "(I)I"⟩
abbrev cX12_status : ByteArray := prog_14_method_84_code
def yX12_status : MethodName := ⟨RX12, "status", "(I)I"⟩
def RJ6 : String := "java/lang/Integer"
abbrev cJ6_bitCount_0f7a4 : ByteArray := prog_15_method_49_code
def yJ6_bitCount_0f7a4 : MethodName := ⟨RJ6, "bitCount", "(I)I"⟩
def RJ9 : String := "java/lang/Math"
abbrev cJ9_abs_0f7a4 : ByteArray := prog_16_method_59_code
def yJ9_abs_0f7a4 : MethodName := ⟨RJ9, "abs", "(I)I"⟩
abbrev cJ9_max_7cf53 : ByteArray := prog_16_method_65_code
def yJ9_max_7cf53 : MethodName := ⟨RJ9, "max", "(II)I"⟩
abbrev cJ9_min_7cf53 : ByteArray := prog_16_method_69_code
def yJ9_min_7cf53 : MethodName := ⟨RJ9, "min", "(II)I"⟩
def RJ0 : String := "java/lang/String"
abbrev cJ0_length_8abf5 : ByteArray := prog_17_method_54_code
def yJ0_length_8abf5 : MethodName := ⟨RJ0, "length", "()I"⟩
abbrev cJ0_charAt_5068e : ByteArray := prog_17_method_56_code
def yJ0_charAt_5068e : MethodName := ⟨RJ0, "charAt", "(I)C"⟩
abbrev cJ0_coder_7d493 : ByteArray := prog_17_method_152_code
def yJ0_coder_7d493 : MethodName := ⟨RJ0, "coder", "()B"⟩
abbrev cJ0_isLatin1_aae02 : ByteArray := prog_17_method_154_code
def yJ0_isLatin1_aae02 : MethodName := ⟨RJ0, "isLatin1", "()Z"⟩
abbrev cJ0_checkIndex_df160 : ByteArray := prog_17_method_155_code
def yJ0_checkIndex_df160 : MethodName := ⟨RJ0, "checkIndex", "(II)V"⟩
def RJ1 : String := "java/lang/StringLatin1"
abbrev cJ1_charAt_3b067 : ByteArray := prog_18_method_2_code
def yJ1_charAt_3b067 : MethodName := ⟨RJ1, "charAt", "([BI)C"⟩
def RJ2 : String := "java/lang/StringUTF16"
abbrev cJ2_getChar_3b067 : ByteArray := prog_19_method_5_code
def yJ2_getChar_3b067 : MethodName := ⟨RJ2, "getChar", "([BI)C"⟩
abbrev cJ2_length_9d52b : ByteArray := prog_19_method_6_code
def yJ2_length_9d52b : MethodName := ⟨RJ2, "length", "([B)I"⟩
abbrev cJ2_charAt_3b067 : ByteArray := prog_19_method_83_code
def yJ2_charAt_3b067 : MethodName := ⟨RJ2, "charAt", "([BI)C"⟩
abbrev cJ2_checkIndex_2214a : ByteArray := prog_19_method_91_code
def yJ2_checkIndex_2214a : MethodName := ⟨RJ2, "checkIndex", "(I[B)V"⟩
def RJ10 : String := "java/lang/System"
def RJ7 : String := "java/util/Arrays"
abbrev cJ7_fill_d0a16 : ByteArray := prog_21_method_101_code
def yJ7_fill_d0a16 : MethodName := ⟨RJ7, "fill", "([JJ)V"⟩
def RJ3 : String := "jdk/internal/util/Preconditions"
abbrev cJ3_checkIndex_8e157 : ByteArray := prog_22_method_11_code
def yJ3_checkIndex_8e157 : MethodName := ⟨RJ3, "checkIndex", "(IILjava/util/function/BiFunction;)I"⟩
def RL : String := "EndlessTugLaw"
abbrev cL_law : ByteArray := code
def yL_law : MethodName := ⟨RL, "law", "([I)Z"⟩
abbrev MD : Type := MethodName × ByteArray × Nat × Option FieldType × Nat × Nat
def mX0_init : MD := (yX0_init, cX0_init, 1, none, 1, 20)
def mX0_clear : MD := (yX0_clear, cX0_clear, 1, none, 0, 0)
def mX0_offer : MD := (yX0_offer, cX0_offer, 3, none, 0, 0)
def mX1_init : MD := (yX1_init, cX1_init, 2, none, 2, 41)
def mX1_isOf : MD := (yX1_isOf, cX1_isOf, 2, (some .boolean), 1, 21)
def mX1_pull : MD := (yX1_pull, cX1_pull, 3, (some .int), 1, 23)
def mX1_tire : MD := (yX1_tire, cX1_tire, 2, (some .int), 1, 21)
def mX1_letsGo : MD := (yX1_letsGo, cX1_letsGo, 3, (some .boolean), 1, 22)
def mX2_init : MD := (yX2_init, cX2_init, 3, none, 4, 83)
def mX2_become : MD := (yX2_become, cX2_become, 3, none, 1, 21)
def mX2_has : MD := (yX2_has, cX2_has, 2, (some .boolean), 0, 0)
def mX2_isFull : MD := (yX2_isFull, cX2_isFull, 1, (some .boolean), 0, 0)
def mX2_addOne : MD := (yX2_addOne, cX2_addOne, 4, none, 2, 42)
def mX2_weekOfYear : MD := (yX2_weekOfYear, cX2_weekOfYear, 1, (some .int), 0, 0)
def mX2_isHarvest : MD := (yX2_isHarvest, cX2_isHarvest, 1, (some .boolean), 1, 20)
def mX2_isSunday : MD := (yX2_isSunday, cX2_isSunday, 1, (some .boolean), 0, 0)
def mX2_towards : MD := (yX2_towards, cX2_towards, 2, (some .int), 0, 0)
def mX2_sideAhead : MD := (yX2_sideAhead, cX2_sideAhead, 1, (some .int), 0, 0)
def mX2_setOn : MD := (yX2_setOn, cX2_setOn, 3, (some .int), 0, 0)
def mX2_setOff : MD := (yX2_setOff, cX2_setOff, 4, (some .int), 0, 0)
def mX2_pullOf : MD := (yX2_pullOf, cX2_pullOf, 5, (some .int), 3, 67)
def mX2_pullOfSet : MD := (yX2_pullOfSet, cX2_pullOfSet, 4, (some .int), 3, 67)
def mX2_sizeOf : MD := (yX2_sizeOf, cX2_sizeOf, 4, (some .int), 0, 0)
def mX2_tiredTogether : MD := (yX2_tiredTogether, cX2_tiredTogether, 3, (some .int), 0, 0)
def mX2_canSwap : MD := (yX2_canSwap, cX2_canSwap, 5, (some .boolean), 1, 21)
def mX2_swap : MD := (yX2_swap, cX2_swap, 3, none, 2, 45)
def mX2_go : MD := (yX2_go, cX2_go, 3, none, 5, 115)
def mX2_goDay : MD := (yX2_goDay, cX2_goDay, 5, none, 4, 91)
def mX2_leadOfChapel : MD := (yX2_leadOfChapel, cX2_leadOfChapel, 5, (some .int), 3, 67)
def mX2_moveKnot : MD := (yX2_moveKnot, cX2_moveKnot, 2, none, 1, 21)
def mX2_callOut : MD := (yX2_callOut, cX2_callOut, 5, none, 0, 0)
def mX2_goesAs : MD := (yX2_goesAs, cX2_goesAs, 3, (some .boolean), 5, 115)
def mX3_init : MD := (yX3_init, cX3_init, 2, none, 1, 20)
def mX3_isOf : MD := (yX3_isOf, cX3_isOf, 2, (some .boolean), 0, 0)
def mX3_pull : MD := (yX3_pull, cX3_pull, 4, (some .int), 0, 0)
def mX3_tire : MD := (yX3_tire, cX3_tire, 2, (some .int), 0, 0)
def mX3_letsGo : MD := (yX3_letsGo, cX3_letsGo, 3, (some .boolean), 0, 0)
def mX4_init : MD := (yX4_init, cX4_init, 2, none, 1, 20)
def mX4_become : MD := (yX4_become, cX4_become, 2, none, 0, 0)
def mX4_spendDay : MD := (yX4_spendDay, cX4_spendDay, 3, none, 3, 66)
def mX5_init : MD := (yX5_init, cX5_init, 2, none, 3, 62)
def mX5_isOf : MD := (yX5_isOf, cX5_isOf, 2, (some .boolean), 2, 42)
def mX5_pull : MD := (yX5_pull, cX5_pull, 3, (some .int), 2, 45)
def mX5_tire : MD := (yX5_tire, cX5_tire, 2, (some .int), 2, 42)
def mX6_init : MD := (yX6_init, cX6_init, 1, none, 1, 20)
def mX6_isMissing : MD := (yX6_isMissing, cX6_isMissing, 1, (some .boolean), 0, 0)
def mX6_begin : MD := (yX6_begin, cX6_begin, 3, none, 1, 24)
def mX6_holds : MD := (yX6_holds, cX6_holds, 3, (some .boolean), 0, 0)
def mX6_put : MD := (yX6_put, cX6_put, 4, none, 0, 0)
def mX7_init : MD := (yX7_init, cX7_init, 2, none, 2, 41)
def mX7_isOf : MD := (yX7_isOf, cX7_isOf, 2, (some .boolean), 1, 21)
def mX7_pull : MD := (yX7_pull, cX7_pull, 3, (some .int), 1, 23)
def mX7_tire : MD := (yX7_tire, cX7_tire, 2, (some .int), 1, 21)
def mX7_letsGo : MD := (yX7_letsGo, cX7_letsGo, 3, (some .boolean), 0, 0)
def mX8_init : MD := (yX8_init, cX8_init, 2, none, 3, 62)
def mX8_isOf : MD := (yX8_isOf, cX8_isOf, 2, (some .boolean), 2, 42)
def mX8_pull : MD := (yX8_pull, cX8_pull, 3, (some .int), 2, 45)
def mX8_tire : MD := (yX8_tire, cX8_tire, 2, (some .int), 2, 42)
def mX8_letsGo : MD := (yX8_letsGo, cX8_letsGo, 3, (some .boolean), 2, 44)
def mX9_init : MD := (yX9_init, cX9_init, 1, none, 1, 20)
def mX9_add : MD := (yX9_add, cX9_add, 2, none, 0, 0)
def mX9_tell : MD := (yX9_tell, cX9_tell, 3, (some .int), 9, 195)
def mX9_takeItem : MD := (yX9_takeItem, cX9_takeItem, 3, (some .boolean), 8, 173)
def mX9_takePerson : MD := (yX9_takePerson, cX9_takePerson, 5, (some .boolean), 7, 149)
def mX9_takeWeek : MD := (yX9_takeWeek, cX9_takeWeek, 3, (some .boolean), 3, 64)
def mX9_takeKnot : MD := (yX9_takeKnot, cX9_takeKnot, 3, (some .boolean), 7, 149)
def mX9_takeSlack : MD := (yX9_takeSlack, cX9_takeSlack, 2, (some .boolean), 3, 64)
def mX9_takeSide : MD := (yX9_takeSide, cX9_takeSide, 2, (some .int), 6, 128)
def mX9_takeWord : MD := (yX9_takeWord, cX9_takeWord, 2, (some .boolean), 6, 128)
def mX9_takeNumber : MD := (yX9_takeNumber, cX9_takeNumber, 5, (some .boolean), 2, 40)
def mX9_kindNamed : MD := (yX9_kindNamed, cX9_kindNamed, 1, (some .int), 6, 128)
def mX9_isWord : MD := (yX9_isWord, cX9_isWord, 3, (some .boolean), 5, 106)
def mX9_lookAtNext : MD := (yX9_lookAtNext, cX9_lookAtNext, 1, none, 1, 20)
def mX9_sortOf : MD := (yX9_sortOf, cX9_sortOf, 1, (some .int), 0, 0)
def mX10_init : MD := (yX10_init, cX10_init, 2, none, 2, 41)
def mX10_isOf : MD := (yX10_isOf, cX10_isOf, 2, (some .boolean), 1, 21)
def mX10_pull : MD := (yX10_pull, cX10_pull, 3, (some .int), 2, 40)
def mX10_tire : MD := (yX10_tire, cX10_tire, 2, (some .int), 0, 0)
def mX10_letsGo : MD := (yX10_letsGo, cX10_letsGo, 3, (some .boolean), 2, 40)
def mX11_init : MD := (yX11_init, cX11_init, 2, none, 5, 105)
def mX11_slack : MD := (yX11_slack, cX11_slack, 3, (some .int), 1, 22)
def mX11_harvest : MD := (yX11_harvest, cX11_harvest, 3, (some .int), 1, 22)
def mX11_knot : MD := (yX11_knot, cX11_knot, 3, (some .int), 1, 22)
def mX11_now : MD := (yX11_now, cX11_now, 2, (some .int), 4, 91)
def mX11_person : MD := (yX11_person, cX11_person, 4, (some .int), 3, 65)
def mX11_of : MD := (yX11_of, cX11_of, 4, (some .int), 3, 67)
def mX11_set : MD := (yX11_set, cX11_set, 6, (some .int), 1, 22)
def mX11_turn : MD := (yX11_turn, cX11_turn, 5, (some .int), 2, 42)
def mX11_as : MD := (yX11_as, cX11_as, 4, (some .int), 3, 63)
def mX11_relieve : MD := (yX11_relieve, cX11_relieve, 3, (some .int), 3, 67)
def mX11_days : MD := (yX11_days, cX11_days, 2, (some .int), 6, 137)
def mX11_on : MD := (yX11_on, cX11_on, 3, (some .int), 6, 137)
def mX11_then : MD := (yX11_then, cX11_then, 5, (some .int), 6, 137)
def mX11_wins : MD := (yX11_wins, cX11_wins, 4, (some .int), 5, 115)
def mX11_off : MD := (yX11_off, cX11_off, 3, (some .int), 5, 115)
def mX11_turns : MD := (yX11_turns, cX11_turns, 2, (some .int), 5, 115)
def mX11_spell : MD := (yX11_spell, cX11_spell, 5, (some .int), 6, 137)
def mX11_kind : MD := (yX11_kind, cX11_kind, 5, (some .int), 6, 137)
def mX11_week : MD := (yX11_week, cX11_week, 4, (some .int), 6, 137)
def mX11_strong : MD := (yX11_strong, cX11_strong, 6, (some .int), 6, 137)
def mX11_bears : MD := (yX11_bears, cX11_bears, 4, (some .int), 6, 137)
def mX11_fewest : MD := (yX11_fewest, cX11_fewest, 6, (some .int), 4, 91)
def mX11_traitor : MD := (yX11_traitor, cX11_traitor, 4, (some .int), 6, 137)
def mX11_feed : MD := (yX11_feed, cX11_feed, 4, (some .int), 1, 22)
def mX11_wipe : MD := (yX11_wipe, cX11_wipe, 2, (some .int), 0, 0)
def mX11_green : MD := (yX11_green, cX11_green, 2, (some .int), 10, 217)
def mX11_sheet : MD := (yX11_sheet, cX11_sheet, 5, (some .int), 2, 46)
def mX11_write : MD := (yX11_write, cX11_write, 8, (some .long), 2, 42)
def mX11_copy : MD := (yX11_copy, cX11_copy, 8, (some .int), 2, 60)
def mX11_lays : MD := (yX11_lays, cX11_lays, 7, (some .int), 2, 42)
def mX11_book : MD := (yX11_book, cX11_book, 4, (some .int), 5, 115)
def mX11_read : MD := (yX11_read, cX11_read, 7, (some .int), 6, 137)
def mX11_image : MD := (yX11_image, cX11_image, 1, (some .int), 2, 43)
def mX11_undo : MD := (yX11_undo, cX11_undo, 1, (some .int), 2, 43)
def mX11_tear : MD := (yX11_tear, cX11_tear, 2, (some .int), 0, 0)
def mX11_count : MD := (yX11_count, cX11_count, 2, (some .int), 1, 23)
def mX11_status : MD := (yX11_status, cX11_status, 4, (some .int), 1, 22)
def mX11_finding : MD := (yX11_finding, cX11_finding, 3, (some .int), 0, 0)
def mX11_bestOrNone : MD := (yX11_bestOrNone, cX11_bestOrNone, 1, (some .int), 1, 22)
def mX11_isWithin : MD := (yX11_isWithin, cX11_isWithin, 3, (some .boolean), 0, 0)
def mX11_isKind : MD := (yX11_isKind, cX11_isKind, 1, (some .boolean), 1, 22)
def mX11_isSide : MD := (yX11_isSide, cX11_isSide, 1, (some .boolean), 0, 0)
def mX11_isSheet : MD := (yX11_isSheet, cX11_isSheet, 1, (some .boolean), 1, 22)
def mX12_init : MD := (yX12_init, cX12_init, 1, none, 1, 20)
def mX12_no : MD := (yX12_no, cX12_no, 2, (some .int), 0, 0)
def mX12_in1 : MD := (yX12_in1, cX12_in1, 3, (some .boolean), 0, 0)
def mX12_isPerson : MD := (yX12_isPerson, cX12_isPerson, 2, (some .boolean), 1, 22)
def mX12_isSide : MD := (yX12_isSide, cX12_isSide, 1, (some .boolean), 1, 22)
def mX12_get : MD := (yX12_get, cX12_get, 3, (some .int), 0, 0)
def mX12_puts : MD := (yX12_puts, cX12_puts, 4, none, 0, 0)
def mX12_setsAside : MD := (yX12_setsAside, cX12_setsAside, 2, none, 0, 0)
def mX12_laysBack : MD := (yX12_laysBack, cX12_laysBack, 2, none, 0, 0)
def mX12_isSunday : MD := (yX12_isSunday, cX12_isSunday, 1, (some .boolean), 0, 0)
def mX12_weekNow : MD := (yX12_weekNow, cX12_weekNow, 1, (some .int), 0, 0)
def mX12_isHarvest : MD := (yX12_isHarvest, cX12_isHarvest, 1, (some .boolean), 1, 20)
def mX12_aheadNow : MD := (yX12_aheadNow, cX12_aheadNow, 1, (some .int), 0, 0)
def mX12_pullsOf : MD := (yX12_pullsOf, cX12_pullsOf, 4, (some .int), 2, 40)
def mX12_tiresOf : MD := (yX12_tiresOf, cX12_tiresOf, 3, (some .int), 1, 22)
def mX12_letsGo : MD := (yX12_letsGo, cX12_letsGo, 3, (some .boolean), 2, 40)
def mX12_sidePulls : MD := (yX12_sidePulls, cX12_sidePulls, 4, (some .int), 3, 63)
def mX12_held : MD := (yX12_held, cX12_held, 3, (some .int), 0, 0)
def mX12_knotGoes : MD := (yX12_knotGoes, cX12_knotGoes, 4, none, 4, 86)
def mX12_livesOn : MD := (yX12_livesOn, cX12_livesOn, 2, none, 3, 62)
def mX12_someComes : MD := (yX12_someComes, cX12_someComes, 4, none, 1, 23)
def mX12_goes : MD := (yX12_goes, cX12_goes, 4, none, 5, 109)
def mX12_towards : MD := (yX12_towards, cX12_towards, 2, (some .int), 0, 0)
def mX12_towardsBy : MD := (yX12_towardsBy, cX12_towardsBy, 4, (some .int), 6, 132)
def mX12_becomes : MD := (yX12_becomes, cX12_becomes, 4, (some .int), 0, 0)
def mX12_slack : MD := (yX12_slack, cX12_slack, 2, (some .int), 1, 23)
def mX12_harvest : MD := (yX12_harvest, cX12_harvest, 2, (some .int), 1, 23)
def mX12_isKnot : MD := (yX12_isKnot, cX12_isKnot, 1, (some .boolean), 1, 22)
def mX12_knot : MD := (yX12_knot, cX12_knot, 2, (some .int), 2, 42)
def mX12_onRope : MD := (yX12_onRope, cX12_onRope, 3, (some .int), 1, 22)
def mX12_now : MD := (yX12_now, cX12_now, 2, (some .int), 4, 86)
def mX12_addsPerson : MD := (yX12_addsPerson, cX12_addsPerson, 4, none, 1, 23)
def mX12_person : MD := (yX12_person, cX12_person, 3, (some .int), 2, 46)
def mX12_of : MD := (yX12_of, cX12_of, 3, (some .int), 3, 63)
def mX12_set : MD := (yX12_set, cX12_set, 6, (some .int), 2, 43)
def mX12_turn : MD := (yX12_turn, cX12_turn, 4, (some .int), 2, 43)
def mX12_as : MD := (yX12_as, cX12_as, 4, (some .int), 2, 43)
def mX12_mayRelieve : MD := (yX12_mayRelieve, cX12_mayRelieve, 3, (some .boolean), 1, 22)
def mX12_relieves : MD := (yX12_relieves, cX12_relieves, 3, none, 1, 23)
def mX12_relieve : MD := (yX12_relieve, cX12_relieve, 3, (some .int), 2, 45)
def mX12_days : MD := (yX12_days, cX12_days, 2, (some .int), 6, 132)
def mX12_on : MD := (yX12_on, cX12_on, 4, (some .int), 6, 132)
def mX12_then : MD := (yX12_then, cX12_then, 5, (some .int), 6, 132)
def mX12_wins : MD := (yX12_wins, cX12_wins, 4, (some .int), 6, 132)
def mX12_off : MD := (yX12_off, cX12_off, 3, (some .int), 6, 132)
def mX12_turns : MD := (yX12_turns, cX12_turns, 3, (some .int), 6, 132)
def mX12_spell : MD := (yX12_spell, cX12_spell, 8, (some .int), 7, 155)
def mX12_kind : MD := (yX12_kind, cX12_kind, 8, (some .int), 7, 155)
def mX12_week : MD := (yX12_week, cX12_week, 8, (some .int), 7, 155)
def mX12_strong : MD := (yX12_strong, cX12_strong, 5, (some .int), 7, 155)
def mX12_bears : MD := (yX12_bears, cX12_bears, 5, (some .int), 6, 132)
def mX12_ones : MD := (yX12_ones, cX12_ones, 3, (some .int), 0, 0)
def mX12_fewest : MD := (yX12_fewest, cX12_fewest, 9, (some .int), 4, 86)
def mX12_traitor : MD := (yX12_traitor, cX12_traitor, 7, (some .int), 7, 155)
def mX12_feed : MD := (yX12_feed, cX12_feed, 4, (some .int), 1, 22)
def mX12_wipe : MD := (yX12_wipe, cX12_wipe, 2, (some .int), 0, 0)
def mX12_isLetter : MD := (yX12_isLetter, cX12_isLetter, 1, (some .boolean), 1, 22)
def mX12_isDigit : MD := (yX12_isDigit, cX12_isDigit, 1, (some .boolean), 1, 22)
def mX12_nextToken : MD := (yX12_nextToken, cX12_nextToken, 1, none, 2, 42)
def mX12_wordOf : MD := (yX12_wordOf, cX12_wordOf, 7, (some .int), 0, 0)
def mX12_takesNumber : MD := (yX12_takesNumber, cX12_takesNumber, 4, (some .int), 3, 62)
def mX12_readsPerson : MD := (yX12_readsPerson, cX12_readsPerson, 5, (some .boolean), 4, 85)
def mX12_readsWeek : MD := (yX12_readsWeek, cX12_readsWeek, 3, (some .boolean), 4, 85)
def mX12_readsKnot : MD := (yX12_readsKnot, cX12_readsKnot, 3, (some .boolean), 4, 85)
def mX12_readsItem : MD := (yX12_readsItem, cX12_readsItem, 4, (some .boolean), 5, 109)
def mX12_green : MD := (yX12_green, cX12_green, 3, (some .int), 6, 132)
def mX12_isSheet : MD := (yX12_isSheet, cX12_isSheet, 1, (some .boolean), 1, 22)
def mX12_wrongSheet : MD := (yX12_wrongSheet, cX12_wrongSheet, 2, (some .int), 2, 42)
def mX12_told : MD := (yX12_told, cX12_told, 3, (some .long), 0, 0)
def mX12_tells : MD := (yX12_tells, cX12_tells, 5, none, 0, 0)
def mX12_sheet : MD := (yX12_sheet, cX12_sheet, 5, (some .int), 2, 42)
def mX12_write : MD := (yX12_write, cX12_write, 8, (some .long), 3, 63)
def mX12_copy : MD := (yX12_copy, cX12_copy, 7, (some .int), 2, 42)
def mX12_lays : MD := (yX12_lays, cX12_lays, 5, (some .int), 3, 63)
def mX12_book : MD := (yX12_book, cX12_book, 4, (some .int), 6, 132)
def mX12_isSo : MD := (yX12_isSo, cX12_isSo, 4, (some .boolean), 6, 132)
def mX12_read : MD := (yX12_read, cX12_read, 7, (some .int), 7, 155)
def mX12_image : MD := (yX12_image, cX12_image, 2, (some .int), 0, 0)
def mX12_undo : MD := (yX12_undo, cX12_undo, 2, (some .int), 1, 21)
def mX12_tear : MD := (yX12_tear, cX12_tear, 2, (some .int), 0, 0)
def mX12_count : MD := (yX12_count, cX12_count, 5, (some .int), 1, 22)
def mX12_status : MD := (yX12_status, cX12_status, 4, (some .int), 1, 22)
def mJ6_bitCount_0f7a4 : MD := (yJ6_bitCount_0f7a4, cJ6_bitCount_0f7a4, 1, (some .int), 0, 0)
def mJ9_abs_0f7a4 : MD := (yJ9_abs_0f7a4, cJ9_abs_0f7a4, 1, (some .int), 0, 0)
def mJ9_max_7cf53 : MD := (yJ9_max_7cf53, cJ9_max_7cf53, 2, (some .int), 0, 0)
def mJ9_min_7cf53 : MD := (yJ9_min_7cf53, cJ9_min_7cf53, 2, (some .int), 0, 0)
def mJ0_length_8abf5 : MD := (yJ0_length_8abf5, cJ0_length_8abf5, 1, (some .int), 1, 20)
def mJ0_charAt_5068e : MD := (yJ0_charAt_5068e, cJ0_charAt_5068e, 2, (some .char), 4, 85)
def mJ0_coder_7d493 : MD := (yJ0_coder_7d493, cJ0_coder_7d493, 1, (some .byte), 0, 0)
def mJ0_isLatin1_aae02 : MD := (yJ0_isLatin1_aae02, cJ0_isLatin1_aae02, 1, (some .boolean), 0, 0)
def mJ0_checkIndex_df160 : MD := (yJ0_checkIndex_df160, cJ0_checkIndex_df160, 2, none, 1, 22)
def mJ1_charAt_3b067 : MD := (yJ1_charAt_3b067, cJ1_charAt_3b067, 2, (some .char), 2, 43)
def mJ2_getChar_3b067 : MD := (yJ2_getChar_3b067, cJ2_getChar_3b067, 2, (some .char), 1, 20)
def mJ2_length_9d52b : MD := (yJ2_length_9d52b, cJ2_length_9d52b, 1, (some .int), 0, 0)
def mJ2_charAt_3b067 : MD := (yJ2_charAt_3b067, cJ2_charAt_3b067, 2, (some .char), 3, 64)
def mJ2_checkIndex_2214a : MD := (yJ2_checkIndex_2214a, cJ2_checkIndex_2214a, 2, none, 2, 43)
def mJ7_fill_d0a16 : MD := (yJ7_fill_d0a16, cJ7_fill_d0a16, 5, none, 0, 0)
def mJ3_checkIndex_8e157 : MD := (yJ3_checkIndex_8e157, cJ3_checkIndex_8e157, 3, (some .int), 0, 0)
def mL_law : MD := (yL_law, cL_law, 4, (some .boolean), 13, 482)
end
section
/-! THE ABSTRACT MACHINE, 1: memory, pictures, the judgement.
A method is an MD (name, bytes, locals, return type, frames and words of room below it). References are places 0, 1, .. in the order of making
(the address of place i is base + i); places 400 .. are the String constants, 450 .. their bytes, 499 a static of the JDK's, 999 the script. -/
theorem mem_filter0 {l : List Cond} {w : Cond} (h : w ∈ l) (g : goodWord w = true) : w ∈ l.filter goodWord := List.mem_filter.mpr ⟨h, g⟩
def ws0 : List Cond := lw_tbl.filter goodWord
theorem ws0_mem {w : Cond} (h : w ∈ lw_tbl) (g : goodWord w = true) : w ∈ ws0 := mem_filter0 h g
theorem ws0_in {w : Cond} (h : w ∈ ws0) : w ∈ lw_tbl := (List.mem_filter.mp h).1
theorem ws0_good {w : Cond} (h : w ∈ ws0) : goodWord w = true := (List.mem_filter.mp h).2
def cdW (M : MD) : Cond := .code M.1 M.2.1 M.2.2.1 M.2.2.2.1
def wsM (M : MD) : List Cond := cdW M :: ws0
theorem goodIn0 {M : MD} (h : cdW M ∈ ws0) : GoodIn ws0 (wsM M) := by
  intro w hw
  rcases List.mem_cons.mp hw with rfl | hw
  · exact ⟨h, good_of_word (ws0_good h)⟩
  · exact ⟨hw, good_of_word (ws0_good hw)⟩
abbrev kd : Type := Nat ⊕ (Nat × Nat)
abbrev Mem : Type := (Nat → Nat → Int32) × (Nat → Nat → Int64) × (Nat → Nat → Option Nat)
/-- addresses of places, array classes, object classes, base -/
abbrev GT : Type := (Nat → Nat) × (Nat → ClassId) × va_G × Nat
/-- the script: its length and ints -/
abbrev SCR : Type := Nat × (Nat → Int32)
abbrev cls13 : List vw_C := [(RX0, TX0, 3), (RX1, TX1, 1), (RX2, TX2, 7), (RX3, TX3, 1), (RX4, TX4, 5), (RX5, TX5, 1), (RX6, TX6, 3), (RX7, TX7, 1), (RX8, TX8, 1), (RX9, TX9, 6), (RX10, TX10, 1), (RX11, TX11, 8), (RX12, TX12, 19)]
def tyF (ci : Nat) : Nat → FieldType := match ci with
  | 0 => tyX0 | 1 => tyX1 | 2 => tyX2 | 3 => tyX3 | 4 => tyX4 | 5 => tyX5 | 6 => tyX6 | 7 => tyX7 | 8 => tyX8 | 9 => tyX9 | 10 => tyX10 | 11 => tyX11 | _ => tyX12
def nF (ci : Nat) : Nat := match ci with
  | 0 => 3 | 1 => 1 | 2 => 7 | 3 => 1 | 4 => 5 | 5 => 1 | 6 => 3 | 7 => 1 | 8 => 1 | 9 => 6 | 10 => 1 | 11 => 8 | _ => 19
/-- 0: held as an int, 1: as a long, 2: a reference -/
def ftc (t : FieldType) : Nat := match t with
  | .long => 1 | .object _ => 2 | .array _ => 2 | _ => 0
def tyl (dA : Nat → ClassId) : List (ClassId × FieldType) := [(dA 0, .int), (dA 1, .long), (dA 2, .char), (dA 3, .object "EndlessTug$Man"), (dA 4, .object "EndlessTug$Person"), (dA 5, .object "EndlessTug$Sheet")]
def cv (ad : Nat → Nat) (v : Value) : Value := match v with
  | .ref q => .ref (ad q)
  | v => v
def fv (ad : Nat → Nat) (t : Nat) (μ : Mem) (p k : Nat) : Value := match t with
  | 0 => .int (μ.1 p k)
  | 1 => .long (μ.2.1 p k)
  | _ => va_rf ((μ.2.2 p k).map ad)
def fls (ad : Nat → Nat) (ci : Nat) (μ : Mem) (p : Nat) : List Value := (List.range (nF ci)).map (fun k => fv ad (ftc (tyF ci k)) μ p k)
def arrC (ad : Nat → Nat) (t : Nat) (μ : Mem) (p : Nat) : (Nat → Int32) ⊕ (Nat → Int64) ⊕ (Nat → UInt32) ⊕ (Nat → UInt64) ⊕ (Nat → Option Nat) := match t with
  | 0 => .inl (μ.1 p)
  | 1 => .inr (.inl (μ.2.1 p))
  | 2 => .inl (μ.1 p)
  | _ => .inr (.inr (.inr (.inr (fun k => (μ.2.2 p k).map ad))))
def cellE (G : GT) (k : kd) (μ : Mem) (p : Nat) : va_E := match k with
  | .inl ci => .inr (ci, fls G.1 ci μ p)
  | .inr (t, n) => .inl (G.2.1 t, n, arrC G.1 t μ p)
def wl (G : GT) (K : List kd) (μ : Mem) : va_W := (List.range K.length).map (fun i => (G.1 i, cellE G (K.getD i (.inl 0)) μ i))
theorem wl_get {G : GT} {K : List kd} {μ : Mem} {p : Nat} {k : kd} (h : K[p]? = some k) : (wl G K μ)[p]? = some (G.1 p, cellE G k μ p) := by
  have hp : p < K.length := (List.getElem?_eq_some_iff.mp h).1
  have hg : K.getD p (.inl 0) = k := by rw [List.getD_eq_getElem?_getD, h]; rfl
  simp only [wl, List.getElem?_map, List.getElem?_range hp, Option.map_some, hg]
theorem wl_len (G : GT) (K : List kd) (μ : Mem) : (wl G K μ).length = K.length := by simp [wl]
theorem wl_at {G : GT} {K : List kd} {μ : Mem} {p : Nat} {q : Nat × va_E} (h : (wl G K μ)[p]? = some q) : p < K.length ∧ q = (G.1 p, cellE G (K.getD p (.inl 0)) μ p) := by
  have hp : p < K.length := by
    have := (List.getElem?_eq_some_iff.mp h).1
    rwa [wl_len] at this
  refine ⟨hp, ?_⟩
  rw [wl_get (List.getElem?_eq_getElem hp)] at h
  rw [List.getD_eq_getElem?_getD, List.getElem?_eq_getElem hp]
  exact (Option.some.inj h).symm
theorem wl_set {G : GT} {K : List kd} {μ μ' : Mem} {p : Nat} {k : kd} {e : va_E} (h : K[p]? = some k) (he : cellE G k μ' p = e) (ho : ∀ q, q ≠ p → ∀ k, cellE G k μ' q = cellE G k μ q) : (wl G K μ).set p (G.1 p, e) = wl G K μ' := by
  have hp : p < K.length := (List.getElem?_eq_some_iff.mp h).1
  have hg : K.getD p (.inl 0) = k := by rw [List.getD_eq_getElem?_getD, h]; rfl
  apply List.ext_getElem?
  intro i
  rw [List.getElem?_set]
  by_cases hi : p = i
  · subst hi
    rw [if_pos rfl, if_pos (by rw [wl_len]; exact hp), wl_get h, he]
  · rw [if_neg hi]
    simp only [wl, List.getElem?_map]
    by_cases hl : i < K.length
    · rw [List.getElem?_range hl]
      simp [ho i (fun z => hi z.symm)]
    · rw [List.getElem?_eq_none (by simpa using hl)]
      rfl
theorem wl_push {G : GT} {K : List kd} {μ μ' : Mem} {k : kd} (ho : ∀ q, q ≠ K.length → ∀ k, cellE G k μ' q = cellE G k μ q) : wl G (K ++ [k]) μ' = wl G K μ ++ [(G.1 K.length, cellE G k μ' K.length)] := by
  simp only [wl, List.length_append, List.length_singleton, List.range_succ, List.map_append, List.map_cons, List.map_nil]
  congr 1
  · apply List.map_congr_left
    intro i hi
    have hi := List.mem_range.mp hi
    rw [List.getD_eq_getElem?_getD, List.getElem?_append_left hi, ho i (Nat.ne_of_lt hi), List.getD_eq_getElem?_getD]
  · rw [List.getD_eq_getElem?_getD, List.getElem?_append_right (Nat.le_refl _)]
    simp
def pI (μ : Mem) (p k : Nat) (v : Int32) : Mem := (va_up μ.1 p (upd (μ.1 p) k v), μ.2)
def pJ (μ : Mem) (p k : Nat) (v : Int64) : Mem := (μ.1, va_up μ.2.1 p (vp_updL (μ.2.1 p) k v), μ.2.2)
def pR (μ : Mem) (p k : Nat) (v : Option Nat) : Mem := (μ.1, μ.2.1, va_up μ.2.2 p (va_up (μ.2.2 p) k v))
def pRow (μ : Mem) (p : Nat) (f : Nat → Int64) : Mem := (μ.1, va_up μ.2.1 p f, μ.2.2)
def p0 (μ : Mem) (p : Nat) : Mem := (va_up μ.1 p (fun _ => 0), va_up μ.2.1 p (fun _ => 0), va_up μ.2.2 p (fun _ => none))
theorem cell_row {G : GT} {μ μ' : Mem} {q : Nat} (h1 : μ'.1 q = μ.1 q) (h2 : μ'.2.1 q = μ.2.1 q) (h3 : μ'.2.2 q = μ.2.2 q) (k : kd) : cellE G k μ' q = cellE G k μ q := by
  cases k with
  | inl ci => simp only [cellE, fls, fv, h1, h2, h3]
  | inr a => simp only [cellE, arrC, h1, h2, h3]
theorem cell_pI {G : GT} (μ : Mem) {p q : Nat} (k : Nat) (v : Int32) (h : q ≠ p) (c : kd) : cellE G c (pI μ p k v) q = cellE G c μ q := cell_row (μ := μ) (μ' := (pI μ p k v)) (va_up_ne _ _ h) rfl rfl c
theorem cell_pJ {G : GT} (μ : Mem) {p q : Nat} (k : Nat) (v : Int64) (h : q ≠ p) (c : kd) : cellE G c (pJ μ p k v) q = cellE G c μ q := cell_row (μ := μ) (μ' := (pJ μ p k v)) rfl (va_up_ne _ _ h) rfl c
theorem cell_pR {G : GT} (μ : Mem) {p q : Nat} (k : Nat) (v : Option Nat) (h : q ≠ p) (c : kd) : cellE G c (pR μ p k v) q = cellE G c μ q := cell_row (μ := μ) (μ' := (pR μ p k v)) rfl rfl (va_up_ne _ _ h) c
theorem cell_pRow {G : GT} (μ : Mem) {p q : Nat} (f : Nat → Int64) (h : q ≠ p) (c : kd) : cellE G c (pRow μ p f) q = cellE G c μ q := cell_row (μ := μ) (μ' := (pRow μ p f)) rfl (va_up_ne _ _ h) rfl c
theorem cell_p0 {G : GT} (μ : Mem) {p q : Nat} (h : q ≠ p) (c : kd) : cellE G c (p0 μ p) q = cellE G c μ q := cell_row (μ := μ) (μ' := (p0 μ p)) (va_up_ne _ _ h) (va_up_ne _ _ h) (va_up_ne _ _ h) c
theorem fls_get {ad : Nat → Nat} {ci k : Nat} {μ : Mem} {p : Nat} (h : k < nF ci) : (fls ad ci μ p)[k]? = some (fv ad (ftc (tyF ci k)) μ p k) := by
  simp [fls, h]
theorem fls_len {ad : Nat → Nat} {ci : Nat} {μ : Mem} {p : Nat} : (fls ad ci μ p).length = nF ci := by simp [fls]
theorem fls_set {ad : Nat → Nat} {ci k : Nat} {μ μ' : Mem} {p : Nat} {v : Value} (hk : k < nF ci) (hv : fv ad (ftc (tyF ci k)) μ' p k = v) (ho : ∀ j, j ≠ k → fv ad (ftc (tyF ci j)) μ' p j = fv ad (ftc (tyF ci j)) μ p j) : (fls ad ci μ p).set k v = fls ad ci μ' p := by
  apply List.ext_getElem?
  intro i
  rw [List.getElem?_set]
  by_cases hi : k = i
  · subst hi
    rw [if_pos rfl, if_pos (by rw [fls_len]; exact hk), fls_get hk, hv]
  · rw [if_neg hi]
    simp only [fls, List.getElem?_map]
    by_cases hl : i < nF ci
    · rw [List.getElem?_range hl]
      simp [ho i (fun z => hi z.symm)]
    · rw [List.getElem?_eq_none (by simpa using hl)]
      rfl
theorem fls_pI {ad : Nat → Nat} {ci k : Nat} {μ : Mem} {p : Nat} {v : Int32} (hk : k < nF ci) (ht : ftc (tyF ci k) = 0) : (fls ad ci μ p).set k (.int v) = fls ad ci (pI μ p k v) p := by
  refine fls_set hk (by rw [ht]; simp [fv, pI, va_up, upd]) (fun j hj => ?_)
  simp [fv, pI, va_up, upd, hj]
theorem fls_pJ {ad : Nat → Nat} {ci k : Nat} {μ : Mem} {p : Nat} {v : Int64} (hk : k < nF ci) (ht : ftc (tyF ci k) = 1) : (fls ad ci μ p).set k (.long v) = fls ad ci (pJ μ p k v) p := by
  refine fls_set hk (by rw [ht]; simp [fv, pJ, va_up, vp_updL]) (fun j hj => ?_)
  simp [fv, pJ, va_up, vp_updL, hj]
theorem fls_pR {ad : Nat → Nat} {ci k : Nat} {μ : Mem} {p q : Nat} (hk : k < nF ci) (ht : ftc (tyF ci k) = 2) : (fls ad ci μ p).set k (.ref (ad q)) = fls ad ci (pR μ p k (some q)) p := by
  refine fls_set hk (by rw [ht]; simp [fv, pR, va_up, va_rf]) (fun j hj => ?_)
  simp [fv, pR, va_up, hj]
end
section
/-! THE ABSTRACT MACHINE, 2: what stays (String constants, statics, the script), the state of the world, the judgement AW and the call AM -/
def sIdx : List Nat := [116, 118, 120, 122, 124, 126, 109, 114, 82, 95, 99, 43, 52, 54, 59]
def sTxt : List String := ["man", "son", "drinker", "woman", "preacher", "stranger", "pub", "chapel", "strong", "tired", "on", "harvest", "plain", "knot", "slack"]
def sLen : List Nat := [3, 3, 7, 5, 8, 8, 3, 6, 6, 5, 2, 7, 5, 4, 5]
def sByt : List (List Int32) := [[109, 97, 110], [115, 111, 110], [100, 114, 105, 110, 107, 101, 114], [119, 111, 109, 97, 110], [112, 114, 101, 97, 99, 104, 101, 114], [115, 116, 114, 97, 110, 103, 101, 114], [112, 117, 98], [99, 104, 97, 112, 101, 108], [115, 116, 114, 111, 110, 103], [116, 105, 114, 101, 100], [111, 110], [104, 97, 114, 118, 101, 115, 116], [112, 108, 97, 105, 110], [107, 110, 111, 116], [115, 108, 97, 99, 107]]
abbrev bA (G : GT) : Nat → Prop := fun q => G.2.2.2 ≤ q
def nestL : List (String × Nat × MethodName) := [("EndlessTug", 24, ⟨"EndlessTug$Best", "<init>", "()V"⟩), ("EndlessTug", 31, ⟨"EndlessTug$Tape", "<init>", "()V"⟩), ("EndlessTug", 46, ⟨"EndlessTug$Sheet", "<init>", "()V"⟩), ("EndlessTug$Green", 68, ⟨"EndlessTug", "isKind", "(I)Z"⟩)]
def castL : List String := ["EndlessTug$Son", "EndlessTug$Drinker", "EndlessTug$Woman", "EndlessTug$Preacher", "EndlessTug$Stranger"]
def overL : List String := ["EndlessTug$Man", "EndlessTug$Person", "EndlessTug$Sheet"]
/-- what the rest of the world holds, and nobody changes -/
def Ro (Sc : SCR) (G : GT) (s : State) : Prop :=
  (∀ i, i < 15 → vk_R "EndlessTug$Tape" (sIdx.getD i 0) (sTxt.getD i "") (G.1 (400 + i)) s) ∧
  vk_S 15 sLen sByt (fun i => G.1 (400 + i)) (fun i => G.1 (450 + i)) (bA G) s s.heap ∧
  va_Z "java/lang/String" "COMPACT_STRINGS" "Z" (.int 1) (bA G) s s.heap ∧
  (va_Z "jdk/internal/util/Preconditions" "SIOOBE_FORMATTER" "Ljava/util/function/BiFunction;" .null (bA G) s s.heap ∨ va_Z "jdk/internal/util/Preconditions" "SIOOBE_FORMATTER" "Ljava/util/function/BiFunction;" (.ref (G.1 499)) (bA G) s s.heap) ∧
  (va_X (G.1 999) Sc.1 Sc.2 s s.heap ∧ G.1 999 < G.2.2.2 ∧ G.1 999 < s.heap.size) ∧
  (∀ q ∈ nestL, va_Nw (.methodLinkNest q.1 q.2.1 q.2.2 "EndlessTug") s) ∧
  (∀ C ∈ castL, va_Nw (.castable C "EndlessTug$Man") s) ∧ (∀ C ∈ overL, va_AO C s)
theorem Ro.warm {Sc : SCR} {G : GT} {s U : State} (h : Ro Sc G s) (hW : s.WarmedH U.vm) (hz : s.heap.size ≤ U.heap.size) (hk : ∀ q : Nat, q < s.heap.size → ¬ bA G q → U.heap[q]? = s.heap[q]?) : Ro Sc G U := by
  obtain ⟨h1, h2, h3, h4, ⟨h5, h5b, h5c⟩, h6, h7, h8⟩ := h
  refine ⟨fun i hi => (h1 i hi).warm hW, (h2.moved hW.alike).kept hk, (h3.moved hW.alike).kept hk, ?_, ⟨(h5.moved hW.alike).kept (hk _ h5c (Nat.not_le.mpr h5b)), h5b, Nat.lt_of_lt_of_le h5c hz⟩, fun q hq => (h6 q hq).warmM hW, fun C hC => (h7 C hC).warmC hW, fun C hC => (h8 C hC).moved hW.alike⟩
  rcases h4 with h4 | h4
  · exact Or.inl ((h4.moved hW.alike).kept hk)
  · exact Or.inr ((h4.moved hW.alike).kept hk)
/-- the world at a state: the places K with contents μ -/
def St (Sc : SCR) (G : GT) (U : State) (K : List kd) (μ : Mem) : Prop :=
  va_K G.2.2.1 cls13 (tyl G.2.1) U ∧ va_P G.2.2.1 cls13 (wl G K μ) U.heap ∧ U.heap.size = G.2.2.2 + K.length ∧ K.length ≤ 400 ∧ (∀ i, i < 400 → G.1 i = G.2.2.2 + i) ∧ Ro Sc G U
/-- the world inside a method that began at s, now with the heap H -/
def Dy (Sc : SCR) (G : GT) (s : State) (H : Heap) (locs : List Loc) (K : List kd) (μ : Mem) : Prop :=
  va_K G.2.2.1 cls13 (tyl G.2.1) s ∧ va_P G.2.2.1 cls13 (wl G K μ) H ∧ va_S (bA G) s.heap H locs ∧ H.size = G.2.2.2 + K.length ∧ G.2.2.2 ≤ s.heap.size ∧ K.length ≤ 400 ∧ (∀ i, i < 400 → G.1 i = G.2.2.2 + i) ∧ Ro Sc G s
theorem wl_apart {G : GT} {K : List kd} (μ : Mem) (hK : K.length ≤ 400) (ha : ∀ i, i < 400 → G.1 i = G.2.2.2 + i) : va_D (bA G) (wl G K μ) := by
  refine ⟨fun i j p q hp hq e => ?_, fun k q hq => ?_⟩
  · obtain ⟨h1, rfl⟩ := wl_at hp
    obtain ⟨h2, rfl⟩ := wl_at hq
    have e : G.1 i = G.1 j := e
    rw [ha i (by omega), ha j (by omega)] at e
    omega
  · obtain ⟨h1, rfl⟩ := wl_at hq
    show G.2.2.2 ≤ G.1 k
    rw [ha k (by omega)]
    omega
theorem Dy.D {Sc : SCR} {G : GT} {s : State} {H : Heap} {locs : List Loc} {K : List kd} {μ : Mem} (h : Dy Sc G s H locs K μ) : va_D (bA G) (wl G K μ) := wl_apart μ h.2.2.2.2.2.1 h.2.2.2.2.2.2.1
theorem Dy.A {Sc : SCR} {G : GT} {s : State} {H : Heap} {locs : List Loc} {K : List kd} {μ : Mem} (h : Dy Sc G s H locs K μ) : ∀ q, s.heap.size ≤ q → bA G q := fun _ hq => Nat.le_trans h.2.2.2.2.1 hq
/-- the fixed facts of a frame of method M -/
def Cx (M : MD) (p : Program) (R : Room) (s : State) (m : MethodId) (args : Array Value) (meth : Method) (c : Code) : Prop :=
  p.tables.exec = Jvm.exec ∧ c.code = M.2.1 ∧ c.maxLocals = M.2.2.1 ∧ s.vm.findClass M.1.cls = some m.cls ∧ (∀ w ∈ ws0, w.before args s = true) ∧ meth.sig.returnType = M.2.2.2.1 ∧ meth.locks = false ∧ meth.name = M.1.name ∧ M.2.2.2.2.1 ≤ R.frames ∧ M.2.2.2.2.2 ≤ R.locals
/-- a return of v may stand at pc -/
def RetAt (M : MD) (pc : Nat) (v : Option Value) : Prop := match v with
  | none => decode M.2.1 pc = .ok (.return_, 1) ∧ M.2.2.2.1 = none
  | some (.int x) => decode M.2.1 pc = .ok (.ireturn, 1) ∧ ∃ ty, M.2.2.2.1 = some ty ∧ narrow ty (.int x) = .int x
  | some (.long _) => decode M.2.1 pc = .ok (.lreturn, 1) ∧ M.2.2.2.1 = some .long
  | _ => False
def pushr (v : Option Value) (st : List Value) : List Value := match v with
  | some v => v :: st
  | none => st
abbrev PQ : Type := Option Value → List kd → Mem → Prop
/-- THE JUDGEMENT: method M at pc, with locals lv and stack st over the world K, μ, n cells and slots left to make, comes to a return that satisfies Q -/
def AW (Sc : SCR) (M : MD) (pc : Nat) (lv : List (Nat × Value)) (st : List Value) (K : List kd) (μ : Mem) (n : Nat × Nat) (Q : PQ) : Prop :=
  ∀ (p : Program) (l : Launch) (e : Env) (R : Room) (s : State) (m : MethodId) (args : Array Value) (below : List Frame) (meth : Method) (c : Code) (H : Heap) (locs : List Loc) (cells slots : Nat) (Qf : State → Prop) (G : GT) (ls : Array Slot),
    Cx M p R s m args meth c → Dy Sc G s H locs K μ → cells + n.1 ≤ R.cells ∧ slots + n.2 ≤ R.slots → lv_has ls M.2.2.1 (lv.map fun q => (q.1, cv G.1 q.2)) →
    (∀ (v : Option Value) (pc' : Nat) (ls' : Array Slot) (H' : Heap) (locs' : List Loc) (cells' slots' : Nat) (K' : List kd) (μ' : Mem), RetAt M pc' v → Q v K' μ' → Dy Sc G s H' locs' K' μ' → cells' ≤ R.cells ∧ slots' ≤ R.slots →
      W p l e R s m args below meth c H' locs' cells' slots' Qf (F0 m pc' ls' (pushr (v.map (cv G.1)) []))) →
    W p l e R s m args below meth c H locs cells slots Qf (F0 m pc ls (st.map (cv G.1)))
def PcOf (Sc : SCR) (G : GT) (av : List Value) (K : List kd) (μ : Mem) : Array Value → State → Prop := va_Pc (av.map (cv G.1)) (fun U => St Sc G U K μ)
def QcOf (G : GT) (Q : PQ) : Array Value → State → Outcome → State → Prop := fun _ st oc t => (∃ (v : Option Value) (K' : List kd) (μ' : Mem), oc = .returned (v.map (cv G.1)) ∧ Q v K' μ' ∧ va_P G.2.2.1 cls13 (wl G K' μ') t.heap ∧ t.heap.size = G.2.2.2 + K'.length ∧ K'.length ≤ 400) ∧ va_F (bA G) st t
def rmOf (M : MD) (n : Nat × Nat) : Room := { frames := M.2.2.2.2.1, cells := n.1, slots := n.2, locals := M.2.2.2.2.2 }
/-- THE CALL: method M with the arguments av -/
def AM (Sc : SCR) (M : MD) (av : List Value) (K : List kd) (μ : Mem) (n : Nat × Nat) (Q : PQ) : Prop := ∀ (l : Launch) (G : GT), Met l M.1 (wsM M) (rmOf M n) (PcOf Sc G av K μ) (QcOf G Q) n.1 n.2 (bA G)
theorem AW.mono {Sc : SCR} {M : MD} {pc : Nat} {lv : List (Nat × Value)} {st : List Value} {K : List kd} {μ : Mem} {n : Nat × Nat} {Q Q' : PQ} (h : AW Sc M pc lv st K μ n Q) (hq : ∀ v K μ, Q v K μ → Q' v K μ) : AW Sc M pc lv st K μ n Q' :=
  fun p l e R s m args below meth c H locs cells slots Qf G ls hC hD hn hl hr => h p l e R s m args below meth c H locs cells slots Qf G ls hC hD hn hl (fun v pc' ls' H' locs' c' s' K' μ' h1 h2 h3 h4 => hr v pc' ls' H' locs' c' s' K' μ' h1 (hq _ _ _ h2) h3 h4)
theorem lg_cat (ad : Nat → Nat) (v : Value) : (cv ad v).category = v.category := by cases v <;> rfl
theorem lv_args_cv (ad : Nat → Nat) : ∀ (vs : List Value) (i : Nat), lv_args i (vs.map (cv ad)) = (lv_args i vs).map fun q => (q.1, cv ad q.2)
  | [], _ => rfl
  | v :: vs, i => by
    simp only [List.map_cons, lv_args, lg_cat, lv_args_cv ad vs]
theorem FrameBlind_Pc (Sc : SCR) (G : GT) (av : List Value) (K : List kd) (μ : Mem) : FrameBlind (PcOf Sc G av K μ) := by
  intro a U g mk h
  obtain ⟨h1, h2, h3, h4, h5, h6, r1, r2, r3, r4, ⟨r5, r5b⟩, r6, r7, r8⟩ := h
  have hvm : (U.calling g mk a).vm = U.vm := rfl
  have hal : U.vm.Alike (U.calling g mk a).vm := Vm.Alike.refl U.vm
  refine ⟨h1, h2.moved (U := U.calling g mk a) hal, h3, h4, h5, h6, fun i hi => (r1 i hi).same hvm, r2.moved hal, r3.moved hal, ?_, ⟨r5.moved hal, r5b⟩, fun q hq => va_Nw.same rfl hvm.symm (r6 q hq), fun C hC => va_Nw.same rfl hvm.symm (r7 C hC), fun C hC => (r8 C hC).moved hal⟩
  rcases r4 with r4 | r4
  · exact Or.inl (r4.moved hal)
  · exact Or.inr (r4.moved hal)
end
section
/-! THE ABSTRACT MACHINE, 3: a method's contract out of its walk; what stands behind a call -/
theorem lg_sl_cv (ad : Nat → Nat) : ∀ vs : List Value, (lg_sl (vs.map (cv ad))).length = (lg_sl vs).length
  | [] => rfl
  | v :: vs => by
    have ih := lg_sl_cv ad vs
    have hc := lg_cat ad v
    simp only [List.map_cons, lg_sl, List.flatMap_cons, List.length_append] at ih ⊢
    rw [ih, hc]
    split <;> simp
theorem AM.of {Sc : SCR} {M : MD} {av : List Value} {K : List kd} {μ : Mem} {n : Nat × Nat} {Q : PQ} (hy : plainName M.1.cls = true) (hlen : (lg_sl av).length ≤ M.2.2.1) (h : AW Sc M 0 (lv_args 0 av) [] K μ n Q) : AM Sc M av K μ n Q := by
  intro l G
  refine Met.ofW (cc := M.2.1) (maxL := M.2.2.1) (ret := M.2.2.2.1) hy rfl ?_
  intro p e s m args below meth c s₁ B hml hv
  obtain ⟨rfl, h1, h2, h3, h4, h5, h6⟩ := hv
  have hts := atoms_spec (ws := wsM M) B.pre
  have hC : Cx M p (rmOf M n) s m (av.map (cv G.1)).toArray meth c := ⟨B.exec, B.bytes, hml, findClass_of_methodNamed B.named, fun w hw => hts w (List.mem_cons_of_mem _ hw), B.returns, B.notSynchronized, (name_of_methodNamed B.named B.method).1, Nat.le_refl _, Nat.le_refl _⟩
  have hD : Dy Sc G s s.heap [] K μ := ⟨h1, h2, va_S.rf, h3, by omega, h4, h5, h6⟩
  have hl := lv_entry (av.map (cv G.1)) (n := M.2.2.1) (by rw [lg_sl_cv]; exact hlen)
  rw [lv_args_cv] at hl
  rw [lg_entry_eq]
  refine h p l e (rmOf M n) s m _ below meth c s.heap [] 0 0 _ G _ hC hD ⟨by show 0 + n.1 ≤ n.1; omega, by show 0 + n.2 ≤ n.2; omega⟩ hl ?_
  intro v pc' ls' H' locs' cells' slots' K' μ' hR hQ hD' hn
  obtain ⟨hx, hb, -, -, -, hr, hlk, -⟩ := hC
  refine W.widen (k := n.1) (n := n.2) hn.1 hn.2 ?_
  have hq : ∀ t : State, t.heap = H' → s.WarmedH t.vm → QcOf G Q (av.map (cv G.1)).toArray s (.returned (v.map (cv G.1))) t := fun t ht _ => ⟨⟨v, K', μ', rfl, hQ, by rw [ht]; exact hD'.2.1, by rw [ht]; exact hD'.2.2.2.1, hD'.2.2.2.2.2.1⟩, hD'.2.2.1.F ht⟩
  match v, hR, hq with
  | none, hR, hq => exact W.vret hx hb (by rw [hr]; exact hR.2) hq hD'.2.2.1.2.2 hR.1 hlk
  | some (.int x), hR, hq =>
    obtain ⟨hd, ty, h7, h8⟩ := hR
    exact W.zret hx hb (by rw [hr]; exact h7) h8 hq hD'.2.2.1.2.2 hd hlk
  | some (.long x), hR, hq => exact W.lret hx hb (by rw [hr]; exact hR.2) hq hD'.2.2.1.2.2 hR.1 hlk
  | some (.float _), hR, _ => exact absurd hR id
  | some (.double _), hR, _ => exact absurd hR id
  | some (.ref _), hR, _ => exact absurd hR id
  | some .null, hR, _ => exact absurd hR id
theorem aw_after {Sc : SCR} {p : Program} {l : Launch} {e : Env} {R : Room} {s : State} {m : MethodId} {args : Array Value} {below : List Frame} {meth : Method} {c : Code} {H : Heap} {locs : List Loc} {cells slots mc ms pc : Nat} {ls : Array Slot} {st0 rest : List Value} {a : Array Value} {Qf : State → Prop} {G : GT} {K : List kd} {μ : Mem} {Q' : PQ}
    (hr : va_Run p l e R s m args below meth c H locs cells slots mc ms (F0 m pc ls st0) (rest.map (cv G.1)) (QcOf G Q' a) (bA G)) (hD : Dy Sc G s H locs K μ)
    (kk : ∀ (v : Option Value) (K' : List kd) (μ' : Mem) (H' : Heap) (locs' : List Loc), Q' v K' μ' → Dy Sc G s H' locs' K' μ' → W p l e R s m args below meth c H' locs' (cells + mc) (slots + ms) Qf (F0 m (pc + 3) ls ((pushr v rest).map (cv G.1)))) :
    W p l e R s m args below meth c H locs cells slots Qf (F0 m pc ls st0) := by
  intro T hT X
  obtain ⟨v, st₀, t, T', L, h0, X', hL, e1, e2, ⟨⟨v', K', μ', hv, hQ, hP, hz, h4⟩, hz2, hk⟩, st⟩ := hr T hT X
  cases hv
  rw [h0] at hz2 hk
  obtain ⟨d1, d2, dS, d3, d4, d5, d6, d7⟩ := hD
  have hS' : va_S (bA G) s.heap T'.heap (locs ++ L) := ⟨Nat.le_trans dS.1 (by rw [e1]; exact hz2), fun q g1 g2 => by rw [e1, hk q (Nat.lt_of_lt_of_le g1 dS.1) g2]; exact dS.2.1 q g1 g2, fun q hq => by
      rcases List.mem_append.mp hq with h | h
      · exact dS.2.2 q h
      · exact hL q h⟩
  obtain ⟨t2, a1, b1⟩ := kk v' K' μ' T'.heap (locs ++ L) hQ ⟨d1, by rw [e1]; exact hP, hS', by rw [e1]; exact hz, d4, h4, d6, d7⟩ T' rfl X'
  refine ⟨t2, st t2 ?_, b1⟩
  cases v' with
  | none => exact a1
  | some w => exact a1
theorem Dy.toSt {Sc : SCR} {G : GT} {s U : State} {H : Heap} {locs : List Loc} {K : List kd} {μ : Mem} (h : Dy Sc G s H locs K μ) (hU : U.heap = H) (hW : s.WarmedH U.vm) : St Sc G U K μ := by
  obtain ⟨d1, d2, dS, d3, d4, d5, d6, d7⟩ := h
  exact ⟨d1.moved hW.alike, by rw [hU]; exact d2, by rw [hU]; exact d3, d5, d6, d7.warm hW (by rw [hU]; exact dS.1) (fun q h1 h2 => by rw [hU]; exact dS.2.1 q h1 h2)⟩
/-- the receiver at place q is an object of the class C -/
def Rcv (K : List kd) (C : String) (q : Nat) : Prop := (∃ (ci : Nat) (r : vw_C), K[q]? = some (.inl ci) ∧ cls13[ci]? = some r ∧ r.1 = C) ∨ ∃ i, i < 15 ∧ q = 400 + i ∧ C = "java/lang/String"
theorem Rcv.ob {K : List kd} {C : String} {q ci : Nat} (h : K[q]? = some (.inl ci)) (hc : (cls13[ci]?).map (fun r => r.1) = some C) : Rcv K C q := by
  cases h2 : cls13[ci]? with
  | none => rw [h2] at hc; cases hc
  | some r => rw [h2] at hc; exact Or.inl ⟨ci, r, h, h2, Option.some.inj hc⟩
theorem Dy.recv {Sc : SCR} {G : GT} {s : State} {H : Heap} {locs : List Loc} {K : List kd} {μ : Mem} (h : Dy Sc G s H locs K μ) {C : String} {q : Nat} (hr : Rcv K C q) : ∃ cellB : Cell, H[G.1 q]? = some cellB ∧ cellB.vm.isStatics = false ∧ s.vm.findClass C = some cellB.cls := by
  obtain ⟨d1, d2, dS, d3, d4, d5, d6, d7⟩ := h
  rcases hr with ⟨ci, r, h1, h2, rfl⟩ | ⟨i, hi, rfl, rfl⟩
  · exact va_recv d1 d2 h2 (wl_get h1)
  · exact vk_recv (adK := fun i => G.1 (400 + i)) (i := i) d7.2.1 hi dS
theorem gi_app {l : List Cond} {M : MD} (h : ∀ w ∈ l, w ∈ ws0) (hc : cdW M ∈ ws0) : GoodIn ws0 (l ++ wsM M) := by
  intro w hw
  rcases List.mem_append.mp hw with hw | hw
  · exact ⟨h w hw, good_of_word (ws0_good (h w hw))⟩
  · exact goodIn0 hc w hw
def nPar (M : MD) (n : Nat) : Prop := M.1.cls ≠ "java/lang/invoke/MethodHandle" ∧ M.1.cls ≠ "java/lang/invoke/VarHandle" ∧ (parseMethodDescriptor M.1.desc).map (fun d => d.parameters.length) = some n
/-- links: of an own (or private) instance method, of a static one, of an overridden one, of a superclass's, of a constructor, of a nest mate's -/
def LkV (own : String) (idx : Nat) (M : MD) (n : Nat) : Prop := (∀ w ∈ ([.methodLink own idx M.1, .instanceMethod M.1, .selects M.1.cls M.1 M.1, .initialized M.1.cls] : List Cond), w ∈ ws0) ∧ cdW M ∈ ws0 ∧ nPar M n
def LkS (own : String) (idx : Nat) (M : MD) (n : Nat) : Prop := (∀ w ∈ ([.methodLink own idx M.1, .static M.1, .initialized M.1.cls] : List Cond), w ∈ ws0) ∧ cdW M ∈ ws0 ∧ nPar M n
def LkO (own : String) (idx : Nat) (C : String) (X M : MD) (n : Nat) : Prop := (∀ w ∈ ([.methodLink own idx X.1, .sameMethod X.1.cls X.1.cls X.1.name X.1.desc, .instanceMethod ⟨X.1.cls, X.1.name, X.1.desc⟩, .selects C X.1 M.1, .instanceMethod M.1, .initialized M.1.cls] : List Cond), w ∈ ws0) ∧ cdW M ∈ ws0 ∧ cdW X ∈ ws0 ∧ nPar X n
def LkSU (own : String) (idx : Nat) (M : MD) (n : Nat) : Prop := (∀ w ∈ ([.methodLink own idx M.1, .sameMethod M.1.cls M.1.cls M.1.name M.1.desc, .superclass own M.1.cls, .instanceMethod M.1, .initialized M.1.cls] : List Cond), w ∈ ws0) ∧ cdW M ∈ ws0 ∧ M.1.name ≠ "<init>" ∧ (parseMethodDescriptor M.1.desc).map (fun d => d.parameters.length) = some n
def LkI (own : String) (idx : Nat) (M : MD) (n : Nat) : Prop := (∀ w ∈ ([.methodLink own idx M.1, .instanceMethod M.1, .initialized M.1.cls] : List Cond), w ∈ ws0) ∧ cdW M ∈ ws0 ∧ M.1.name = "<init>" ∧ M.2.2.2.1 = none ∧ nPar M n
def LkIN (own : String) (idx : Nat) (M : MD) (n : Nat) : Prop := (∀ w ∈ ([.instanceMethod M.1, .initialized M.1.cls] : List Cond), w ∈ ws0) ∧ cdW M ∈ ws0 ∧ M.1.name = "<init>" ∧ M.2.2.2.1 = none ∧ nPar M n ∧ (own, idx, M.1) ∈ nestL
def LkSN (own : String) (idx : Nat) (M : MD) (n : Nat) : Prop := (∀ w ∈ ([.static M.1, .initialized M.1.cls] : List Cond), w ∈ ws0) ∧ cdW M ∈ ws0 ∧ nPar M n ∧ (own, idx, M.1) ∈ nestL
/-- the room below fits -/
abbrev Fit (M M' : MD) : Prop := M'.2.2.2.2.1 + 1 ≤ M.2.2.2.2.1 ∧ 8 + (M'.2.2.1 + 11) + M'.2.2.2.2.2 ≤ M.2.2.2.2.2
theorem st_cv {ad : Nat → Nat} {As rest : List Value} {q : Nat} : (As.reverse ++ .ref q :: rest).map (cv ad) = (As.map (cv ad)).reverse ++ .ref (ad q) :: rest.map (cv ad) := by
  simp [cv]
theorem st_cvS {ad : Nat → Nat} {As rest : List Value} : (As.reverse ++ rest).map (cv ad) = (As.map (cv ad)).reverse ++ rest.map (cv ad) := by
  simp
theorem cat_cv {ad : Nat → Nat} {rest : List Value} (h : (rest.map fun v => v.category).sum ≤ 8) : ((rest.map (cv ad)).map fun v => v.category).sum ≤ 8 := by
  rw [List.map_map]
  have e : ((fun v => Value.category v) ∘ cv ad) = fun v => Value.category v := by
    funext v
    exact lg_cat ad v
  rw [e]
  exact h
section ACalls
variable {Sc : SCR} {M M' X : MD} {pc idx k q : Nat} {lv : List (Nat × Value)} {As rest : List Value} {K : List kd} {μ : Mem} {n n1 n2 : Nat × Nat} {Q : PQ} {C : String}
theorem aw_cV (hk : LkV M.1.cls idx M' k) (hf : Fit M M') (hq : Rcv K M'.1.cls q) (h8 : (rest.map fun v => v.category).sum ≤ 8) (hlen : As.length = k) (hnn : n1.1 + n2.1 ≤ n.1 ∧ n1.2 + n2.2 ≤ n.2) (d : decode M.2.1 pc = .ok (.invokevirtual idx, 3))
    (h : AM Sc M' (.ref q :: As) K μ n1 (fun v K' μ' => AW Sc M (pc + 3) lv (pushr v rest) K' μ' n2 Q)) : AW Sc M pc lv (As.reverse ++ .ref q :: rest) K μ n Q := by
  intro p l e R s m args below meth c H locs cells slots Qf G ls hC hD hn hl hr
  obtain ⟨hx, hb, hml, hown, hts, -, -, -, hR1, hR2⟩ := id hC
  rw [st_cv]
  refine aw_after (va_runV (As := As.map (cv G.1)) (rest := rest.map (cv G.1)) (C := M'.1.cls) (own := M.1.cls) ⟨hx, hb, hml, hown, hts⟩ (h l G) (cwV k hts (gi_app hk.1 hk.2.1) rfl rfl rfl ⟨rfl, hk.2.2⟩ ⟨Nat.le_trans hf.1 hR1, Nat.le_trans hf.2 hR2⟩)
    ⟨FrameBlind_Pc _ _ _ _ _, hD.recv hq, fun U hU hW => ⟨rfl, hD.toSt hU hW⟩⟩ rfl (by rw [List.length_map]; exact hlen) hl.1 rfl (lv_room (cat_cv h8)) d ⟨by omega, by omega⟩) hD (fun v K' μ' H' locs' hQ hD' => ?_)
  exact hQ p l e R s m args below meth c H' locs' _ _ Qf G ls hC hD' ⟨by omega, by omega⟩ hl hr
theorem aw_cO (hk : LkO M.1.cls idx C X M' k) (hf : Fit M M') (hq : Rcv K C q) (h8 : (rest.map fun v => v.category).sum ≤ 8) (hlen : As.length = k) (hnn : n1.1 + n2.1 ≤ n.1 ∧ n1.2 + n2.2 ≤ n.2) (d : decode M.2.1 pc = .ok (.invokevirtual idx, 3))
    (h : AM Sc M' (.ref q :: As) K μ n1 (fun v K' μ' => AW Sc M (pc + 3) lv (pushr v rest) K' μ' n2 Q)) : AW Sc M pc lv (As.reverse ++ .ref q :: rest) K μ n Q := by
  intro p l e R s m args below meth c H locs cells slots Qf G ls hC hD hn hl hr
  obtain ⟨hx, hb, hml, hown, hts, -, -, -, hR1, hR2⟩ := id hC
  rw [st_cv]
  refine aw_after (va_runU (As := As.map (cv G.1)) (rest := rest.map (cv G.1)) (C := C) (own := M.1.cls) (owner := X.1.cls) (x := X.1) ⟨hx, hb, hml, hown, hts⟩ (h l G) (va_cwO k hts (gi_app hk.1 hk.2.1) rfl rfl rfl (b0 := X.2.1) (m0 := X.2.2.1) (r0 := X.2.2.2.1) hk.2.2.1 hk.2.2.2 ⟨Nat.le_trans hf.1 hR1, Nat.le_trans hf.2 hR2⟩)
    ⟨FrameBlind_Pc _ _ _ _ _, hD.recv hq, fun U hU hW => ⟨rfl, hD.toSt hU hW⟩⟩ rfl (by rw [List.length_map]; exact hlen) hl.1 rfl (lv_room (cat_cv h8)) d ⟨by omega, by omega⟩) hD (fun v K' μ' H' locs' hQ hD' => ?_)
  exact hQ p l e R s m args below meth c H' locs' _ _ Qf G ls hC hD' ⟨by omega, by omega⟩ hl hr
theorem aw_cS (hk : LkS M.1.cls idx M' k) (hf : Fit M M') (h8 : (rest.map fun v => v.category).sum ≤ 8) (hlen : As.length = k) (hnn : n1.1 + n2.1 ≤ n.1 ∧ n1.2 + n2.2 ≤ n.2) (d : decode M.2.1 pc = .ok (.invokestatic idx, 3))
    (h : AM Sc M' As K μ n1 (fun v K' μ' => AW Sc M (pc + 3) lv (pushr v rest) K' μ' n2 Q)) : AW Sc M pc lv (As.reverse ++ rest) K μ n Q := by
  intro p l e R s m args below meth c H locs cells slots Qf G ls hC hD hn hl hr
  obtain ⟨hx, hb, hml, hown, hts, -, -, -, hR1, hR2⟩ := id hC
  rw [st_cvS]
  refine aw_after (va_runS (As := As.map (cv G.1)) (rest := rest.map (cv G.1)) (own := M.1.cls) ⟨hx, hb, hml, hown, hts⟩ (h l G) (va_cwS k hts (gi_app hk.1 hk.2.1) rfl rfl rfl hk.2.2 ⟨Nat.le_trans hf.1 hR1, Nat.le_trans hf.2 hR2⟩)
    ⟨FrameBlind_Pc _ _ _ _ _, fun U hU hW => ⟨rfl, hD.toSt hU hW⟩⟩ rfl (by rw [List.length_map]; exact hlen) hl.1 rfl (lv_room (cat_cv h8)) d ⟨by omega, by omega⟩) hD (fun v K' μ' H' locs' hQ hD' => ?_)
  exact hQ p l e R s m args below meth c H' locs' _ _ Qf G ls hC hD' ⟨by omega, by omega⟩ hl hr
theorem aw_cSN (hk : LkSN M.1.cls idx M' k) (hf : Fit M M') (h8 : (rest.map fun v => v.category).sum ≤ 8) (hlen : As.length = k) (hnn : n1.1 + n2.1 ≤ n.1 ∧ n1.2 + n2.2 ≤ n.2) (d : decode M.2.1 pc = .ok (.invokestatic idx, 3))
    (h : AM Sc M' As K μ n1 (fun v K' μ' => AW Sc M (pc + 3) lv (pushr v rest) K' μ' n2 Q)) : AW Sc M pc lv (As.reverse ++ rest) K μ n Q := by
  intro p l e R s m args below meth c H locs cells slots Qf G ls hC hD hn hl hr
  obtain ⟨hx, hb, hml, hown, hts, -, -, -, hR1, hR2⟩ := id hC
  rw [st_cvS]
  have hNw := hD.2.2.2.2.2.2.2.2.2.2.2.2.1 _ hk.2.2.2
  refine aw_after (va_runSN (As := As.map (cv G.1)) (rest := rest.map (cv G.1)) (own := M.1.cls) (host := "EndlessTug") ⟨hx, hb, hml, hown, hts⟩ (h l G) ⟨va_cnB k hts (goodIn0 hk.2.1) rfl rfl rfl hNw (hts _ (hk.1 _ (by simp))) hk.2.2.1 ⟨Nat.le_trans hf.1 hR1, Nat.le_trans hf.2 hR2⟩, hts _ (hk.1 _ (by simp)), trivial⟩
    ⟨FrameBlind_Pc _ _ _ _ _, fun U hU hW => ⟨rfl, hD.toSt hU hW⟩⟩ rfl (by rw [List.length_map]; exact hlen) hl.1 rfl (lv_room (cat_cv h8)) d ⟨by omega, by omega⟩) hD (fun v K' μ' H' locs' hQ hD' => ?_)
  exact hQ p l e R s m args below meth c H' locs' _ _ Qf G ls hC hD' ⟨by omega, by omega⟩ hl hr
theorem aw_cSU {ci : Nat} (hk : LkSU M.1.cls idx M' k) (hf : Fit M M') (hq : K[q]? = some (.inl ci)) (hci : ci < 13) (h8 : (rest.map fun v => v.category).sum ≤ 8) (hlen : As.length = k) (hnn : n1.1 + n2.1 ≤ n.1 ∧ n1.2 + n2.2 ≤ n.2) (d : decode M.2.1 pc = .ok (.invokespecial idx, 3))
    (h : AM Sc M' (.ref q :: As) K μ n1 (fun v K' μ' => AW Sc M (pc + 3) lv (pushr v rest) K' μ' n2 Q)) : AW Sc M pc lv (As.reverse ++ .ref q :: rest) K μ n Q := by
  intro p l e R s m args below meth c H locs cells slots Qf G ls hC hD hn hl hr
  obtain ⟨hx, hb, hml, hown, hts, -, -, -, hR1, hR2⟩ := id hC
  rw [st_cv]
  have hc : cls13[ci]? = some cls13[ci] := List.getElem?_eq_getElem hci
  refine aw_after (va_runSU (As := As.map (cv G.1)) (rest := rest.map (cv G.1)) (C := cls13[ci].1) (own := M.1.cls) (hD.1.1 ci _ hc).2 ⟨hx, hb, hml, hown, hts⟩ (h l G) (va_cwSU k hts (gi_app hk.1 hk.2.1) rfl rfl rfl hk.2.2 ⟨Nat.le_trans hf.1 hR1, Nat.le_trans hf.2 hR2⟩)
    ⟨FrameBlind_Pc _ _ _ _ _, hD.recv (Or.inl ⟨ci, _, hq, hc, rfl⟩), fun U hU hW => ⟨rfl, hD.toSt hU hW⟩⟩ rfl (by rw [List.length_map]; exact hlen) hl.1 rfl (lv_room (cat_cv h8)) d ⟨by omega, by omega⟩) hD (fun v K' μ' H' locs' hQ hD' => ?_)
  exact hQ p l e R s m args below meth c H' locs' _ _ Qf G ls hC hD' ⟨by omega, by omega⟩ hl hr
theorem aw_cI (hk : LkI M.1.cls idx M' k) (hf : Fit M M') (h8 : (rest.map fun v => v.category).sum ≤ 8) (hlen : As.length = k) (hnn : n1.1 + n2.1 ≤ n.1 ∧ n1.2 + n2.2 ≤ n.2) (d : decode M.2.1 pc = .ok (.invokespecial idx, 3))
    (h : AM Sc M' (.ref q :: As) K μ n1 (fun v K' μ' => AW Sc M (pc + 3) lv (pushr v rest) K' μ' n2 Q)) : AW Sc M pc lv (As.reverse ++ .ref q :: rest) K μ n Q := by
  intro p l e R s m args below meth c H locs cells slots Qf G ls hC hD hn hl hr
  obtain ⟨hx, hb, hml, hown, hts, -, -, -, hR1, hR2⟩ := id hC
  rw [st_cv]
  obtain ⟨hk1, hk2, hk3, hk4, hk5⟩ := hk
  refine aw_after (va_runI (As := As.map (cv G.1)) (rest := rest.map (cv G.1)) (own := M.1.cls) ⟨hx, hb, hml, hown, hts⟩ (h l G) (cwI k hts (goodIn0 hk2) (by rw [← hk4]; rfl) rfl rfl (hts _ (hk1 _ (by simp))) (hts _ (hk1 _ (by simp))) (hts _ (hk1 _ (by simp))) hk3 hk5 ⟨Nat.le_trans hf.1 hR1, Nat.le_trans hf.2 hR2⟩)
    ⟨FrameBlind_Pc _ _ _ _ _, fun U hU hW => ⟨rfl, hD.toSt hU hW⟩⟩ rfl (by rw [List.length_map]; exact hlen) hl.1 rfl (lv_room (cat_cv h8)) d ⟨by omega, by omega⟩) hD (fun v K' μ' H' locs' hQ hD' => ?_)
  exact hQ p l e R s m args below meth c H' locs' _ _ Qf G ls hC hD' ⟨by omega, by omega⟩ hl hr
theorem aw_cIN (hk : LkIN M.1.cls idx M' k) (hf : Fit M M') (h8 : (rest.map fun v => v.category).sum ≤ 8) (hlen : As.length = k) (hnn : n1.1 + n2.1 ≤ n.1 ∧ n1.2 + n2.2 ≤ n.2) (d : decode M.2.1 pc = .ok (.invokespecial idx, 3))
    (h : AM Sc M' (.ref q :: As) K μ n1 (fun v K' μ' => AW Sc M (pc + 3) lv (pushr v rest) K' μ' n2 Q)) : AW Sc M pc lv (As.reverse ++ .ref q :: rest) K μ n Q := by
  intro p l e R s m args below meth c H locs cells slots Qf G ls hC hD hn hl hr
  obtain ⟨hx, hb, hml, hown, hts, -, -, -, hR1, hR2⟩ := id hC
  rw [st_cv]
  obtain ⟨hk1, hk2, hk3, hk4, hk5, hk6⟩ := hk
  have hNw := hD.2.2.2.2.2.2.2.2.2.2.2.2.1 _ hk6
  refine aw_after (va_runIN (As := As.map (cv G.1)) (rest := rest.map (cv G.1)) (own := M.1.cls) (host := "EndlessTug") ⟨hx, hb, hml, hown, hts⟩ (h l G) ⟨va_cnB k hts (goodIn0 hk2) (by rw [← hk4]; rfl) rfl rfl hNw (hts _ (hk1 _ (by simp))) hk5 ⟨Nat.le_trans hf.1 hR1, Nat.le_trans hf.2 hR2⟩, hk3, hts _ (hk1 _ (by simp))⟩
    ⟨FrameBlind_Pc _ _ _ _ _, fun U hU hW => ⟨rfl, hD.toSt hU hW⟩⟩ rfl (by rw [List.length_map]; exact hlen) hl.1 rfl (lv_room (cat_cv h8)) d ⟨by omega, by omega⟩) hD (fun v K' μ' H' locs' hQ hD' => ?_)
  exact hQ p l e R s m args below meth c H' locs' _ _ Qf G ls hC hD' ⟨by omega, by omega⟩ hl hr
end ACalls
end
section
/-! THE ABSTRACT MACHINE, 4: a rule an instruction (printed by wip/whole/gen_rules.py) -/
def lget (lv : List (Nat × Value)) (i : Nat) : Option Value := match lv with
  | [] => none
  | q :: t => if q.1 = i then some q.2 else lget t i
def lins (i : Nat) (v : Value) (lv : List (Nat × Value)) : List (Nat × Value) := match lv with
  | [] => [(i, v)]
  | q :: t => if q.1 < i then q :: lins i v t else (i, v) :: q :: t
def lset1 (lv : List (Nat × Value)) (i : Nat) (v : Value) : List (Nat × Value) := lins i v (lv.filter (fun q => !(q.1 == i) && !(q.1 + 1 == i && q.2.category == 2)))
def lset2 (lv : List (Nat × Value)) (i : Nat) (v : Value) : List (Nat × Value) := lins i v (lv.filter (fun q => !(q.1 == i) && (!(q.1 == i + 1) && !(q.1 + 1 == i && q.2.category == 2))))
theorem lget_mem : ∀ {lv : List (Nat × Value)} {i : Nat} {v : Value}, lget lv i = some v → (i, v) ∈ lv
  | [], _, _, h => by cases h
  | q :: t, i, v, h => by
    unfold lget at h
    split at h
    · next e => cases h; cases e; exact List.mem_cons_self
    · exact List.mem_cons_of_mem _ (lget_mem h)
theorem lins_mem : ∀ {lv : List (Nat × Value)} {i : Nat} {v : Value} {q : Nat × Value}, q ∈ lins i v lv → q = (i, v) ∨ q ∈ lv
  | [], _, _, _, h => Or.inl (List.mem_singleton.mp h)
  | w :: t, i, v, q, h => by
    unfold lins at h
    split at h
    · rcases List.mem_cons.mp h with rfl | h
      · exact Or.inr List.mem_cons_self
      · rcases lins_mem h with h | h
        · exact Or.inl h
        · exact Or.inr (List.mem_cons_of_mem _ h)
    · rcases List.mem_cons.mp h with rfl | h
      · exact Or.inl rfl
      · exact Or.inr h
theorem lv_ld {ls : Array Slot} {nL : Nat} {lv : List (Nat × Value)} {ad : Nat → Nat} {i : Nat} {v : Value} (h : lv_has ls nL (lv.map fun q => (q.1, cv ad q.2))) (hv : lget lv i = some v) : ls[i]? = some (.val (cv ad v)) := h.2.2 (i, cv ad v) (List.mem_map.mpr ⟨(i, v), lget_mem hv, rfl⟩)
theorem lv_st1 {ls : Array Slot} {nL : Nat} {lv : List (Nat × Value)} {ad : Nat → Nat} {i : Nat} {v : Value} (h : lv_has ls nL ((i, cv ad v) :: (lv.map fun q => (q.1, cv ad q.2)).filter (fun q => !(q.1 == i) && !(q.1 + 1 == i && q.2.category == 2)))) : lv_has ls nL ((lset1 lv i v).map fun q => (q.1, cv ad q.2)) := by
  refine ⟨h.1, h.2.1, fun q hq => ?_⟩
  obtain ⟨w, hw, rfl⟩ := List.mem_map.mp hq
  refine h.2.2 _ ?_
  rcases lins_mem hw with rfl | hw
  · exact List.mem_cons_self
  · obtain ⟨h1, h2⟩ := List.mem_filter.mp hw
    exact List.mem_cons_of_mem _ (List.mem_filter.mpr ⟨List.mem_map.mpr ⟨w, h1, rfl⟩, by simpa only [lg_cat] using h2⟩)
theorem lv_st2 {ls : Array Slot} {nL : Nat} {lv : List (Nat × Value)} {ad : Nat → Nat} {i : Nat} {v : Value} (h : lv_has ls nL ((i, cv ad v) :: (lv.map fun q => (q.1, cv ad q.2)).filter (fun q => !(q.1 == i) && (!(q.1 == i + 1) && !(q.1 + 1 == i && q.2.category == 2))))) : lv_has ls nL ((lset2 lv i v).map fun q => (q.1, cv ad q.2)) := by
  refine ⟨h.1, h.2.1, fun q hq => ?_⟩
  obtain ⟨w, hw, rfl⟩ := List.mem_map.mp hq
  refine h.2.2 _ ?_
  rcases lins_mem hw with rfl | hw
  · exact List.mem_cons_self
  · obtain ⟨h1, h2⟩ := List.mem_filter.mp hw
    exact List.mem_cons_of_mem _ (List.mem_filter.mpr ⟨List.mem_map.mpr ⟨w, h1, rfl⟩, by simpa only [lg_cat] using h2⟩)
section ARules
variable {Sc : SCR} {M : MD} {pc : Nat} {lv : List (Nat × Value)} {st : List Value} {K : List kd} {μ : Mem} {n : Nat × Nat} {Q : PQ}
theorem aw_iadd {x y : Int32} (d : decode M.2.1 pc = .ok (.iadd, 1)) (h : AW Sc M (pc + 1) lv (.int (x + y) :: st) K μ n Q) : AW Sc M pc lv (.int y :: .int x :: st) K μ n Q :=
  fun p l e R s m args below meth c H locs cells slots Qf G ls hC hD hn hl hr => lv_iadd hC.1 hC.2.1 d (h p l e R s m args below meth c H locs cells slots Qf G ls hC hD hn hl hr)
theorem aw_isub {x y : Int32} (d : decode M.2.1 pc = .ok (.isub, 1)) (h : AW Sc M (pc + 1) lv (.int (x - y) :: st) K μ n Q) : AW Sc M pc lv (.int y :: .int x :: st) K μ n Q :=
  fun p l e R s m args below meth c H locs cells slots Qf G ls hC hD hn hl hr => lv_isub hC.1 hC.2.1 d (h p l e R s m args below meth c H locs cells slots Qf G ls hC hD hn hl hr)
theorem aw_imul {x y : Int32} (d : decode M.2.1 pc = .ok (.imul, 1)) (h : AW Sc M (pc + 1) lv (.int (x * y) :: st) K μ n Q) : AW Sc M pc lv (.int y :: .int x :: st) K μ n Q :=
  fun p l e R s m args below meth c H locs cells slots Qf G ls hC hD hn hl hr => lv_imul hC.1 hC.2.1 d (h p l e R s m args below meth c H locs cells slots Qf G ls hC hD hn hl hr)
theorem aw_iand {x y : Int32} (d : decode M.2.1 pc = .ok (.iand, 1)) (h : AW Sc M (pc + 1) lv (.int (x &&& y) :: st) K μ n Q) : AW Sc M pc lv (.int y :: .int x :: st) K μ n Q :=
  fun p l e R s m args below meth c H locs cells slots Qf G ls hC hD hn hl hr => lv_iand hC.1 hC.2.1 d (h p l e R s m args below meth c H locs cells slots Qf G ls hC hD hn hl hr)
theorem aw_ior {x y : Int32} (d : decode M.2.1 pc = .ok (.ior, 1)) (h : AW Sc M (pc + 1) lv (.int (x ||| y) :: st) K μ n Q) : AW Sc M pc lv (.int y :: .int x :: st) K μ n Q :=
  fun p l e R s m args below meth c H locs cells slots Qf G ls hC hD hn hl hr => lv_ior hC.1 hC.2.1 d (h p l e R s m args below meth c H locs cells slots Qf G ls hC hD hn hl hr)
theorem aw_ixor {x y : Int32} (d : decode M.2.1 pc = .ok (.ixor, 1)) (h : AW Sc M (pc + 1) lv (.int (x ^^^ y) :: st) K μ n Q) : AW Sc M pc lv (.int y :: .int x :: st) K μ n Q :=
  fun p l e R s m args below meth c H locs cells slots Qf G ls hC hD hn hl hr => lv_ixor hC.1 hC.2.1 d (h p l e R s m args below meth c H locs cells slots Qf G ls hC hD hn hl hr)
theorem aw_ishl {x y : Int32} (d : decode M.2.1 pc = .ok (.ishl, 1)) (h : AW Sc M (pc + 1) lv (.int (x <<< (y &&& 31)) :: st) K μ n Q) : AW Sc M pc lv (.int y :: .int x :: st) K μ n Q :=
  fun p l e R s m args below meth c H locs cells slots Qf G ls hC hD hn hl hr => lv_ishl hC.1 hC.2.1 d (h p l e R s m args below meth c H locs cells slots Qf G ls hC hD hn hl hr)
theorem aw_ishr {x y : Int32} (d : decode M.2.1 pc = .ok (.ishr, 1)) (h : AW Sc M (pc + 1) lv (.int (x >>> (y &&& 31)) :: st) K μ n Q) : AW Sc M pc lv (.int y :: .int x :: st) K μ n Q :=
  fun p l e R s m args below meth c H locs cells slots Qf G ls hC hD hn hl hr => lv_ishr hC.1 hC.2.1 d (h p l e R s m args below meth c H locs cells slots Qf G ls hC hD hn hl hr)
theorem aw_idiv {x y : Int32} (hy : ¬ y = 0) (d : decode M.2.1 pc = .ok (.idiv, 1)) (h : AW Sc M (pc + 1) lv (.int (x / y) :: st) K μ n Q) : AW Sc M pc lv (.int y :: .int x :: st) K μ n Q :=
  fun p l e R s m args below meth c H locs cells slots Qf G ls hC hD hn hl hr => lv_idiv hC.1 hC.2.1 d hy (h p l e R s m args below meth c H locs cells slots Qf G ls hC hD hn hl hr)
theorem aw_irem {x y : Int32} (hy : ¬ y = 0) (d : decode M.2.1 pc = .ok (.irem, 1)) (h : AW Sc M (pc + 1) lv (.int (x % y) :: st) K μ n Q) : AW Sc M pc lv (.int y :: .int x :: st) K μ n Q :=
  fun p l e R s m args below meth c H locs cells slots Qf G ls hC hD hn hl hr => lv_irem hC.1 hC.2.1 d hy (by rw [irem_eq_mod]; exact h p l e R s m args below meth c H locs cells slots Qf G ls hC hD hn hl hr)
theorem aw_iushr {x y : Int32} (d : decode M.2.1 pc = .ok (.iushr, 1)) (h : AW Sc M (pc + 1) lv (.int ((x.toUInt32 >>> (y.toUInt32 &&& Int32.toUInt32 31)).toInt32) :: st) K μ n Q) : AW Sc M pc lv (.int y :: .int x :: st) K μ n Q :=
  fun p l e R s m args below meth c H locs cells slots Qf G ls hC hD hn hl hr => lv_iushr hC.1 hC.2.1 d rfl (h p l e R s m args below meth c H locs cells slots Qf G ls hC hD hn hl hr)
theorem aw_ineg {x : Int32} (d : decode M.2.1 pc = .ok (.ineg, 1)) (h : AW Sc M (pc + 1) lv (.int (-x) :: st) K μ n Q) : AW Sc M pc lv (.int x :: st) K μ n Q :=
  fun p l e R s m args below meth c H locs cells slots Qf G ls hC hD hn hl hr => lv_ineg hC.1 hC.2.1 d (h p l e R s m args below meth c H locs cells slots Qf G ls hC hD hn hl hr)
theorem aw_ladd {x y : Int64} (d : decode M.2.1 pc = .ok (.ladd, 1)) (h : AW Sc M (pc + 1) lv (.long (x + y) :: st) K μ n Q) : AW Sc M pc lv (.long y :: .long x :: st) K μ n Q :=
  fun p l e R s m args below meth c H locs cells slots Qf G ls hC hD hn hl hr => lv_ladd hC.1 hC.2.1 d (h p l e R s m args below meth c H locs cells slots Qf G ls hC hD hn hl hr)
theorem aw_lsub {x y : Int64} (d : decode M.2.1 pc = .ok (.lsub, 1)) (h : AW Sc M (pc + 1) lv (.long (x - y) :: st) K μ n Q) : AW Sc M pc lv (.long y :: .long x :: st) K μ n Q :=
  fun p l e R s m args below meth c H locs cells slots Qf G ls hC hD hn hl hr => lv_lsub hC.1 hC.2.1 d (h p l e R s m args below meth c H locs cells slots Qf G ls hC hD hn hl hr)
theorem aw_lmul {x y : Int64} (d : decode M.2.1 pc = .ok (.lmul, 1)) (h : AW Sc M (pc + 1) lv (.long (x * y) :: st) K μ n Q) : AW Sc M pc lv (.long y :: .long x :: st) K μ n Q :=
  fun p l e R s m args below meth c H locs cells slots Qf G ls hC hD hn hl hr => lv_lmul hC.1 hC.2.1 d (h p l e R s m args below meth c H locs cells slots Qf G ls hC hD hn hl hr)
theorem aw_land {x y : Int64} (d : decode M.2.1 pc = .ok (.land, 1)) (h : AW Sc M (pc + 1) lv (.long (x &&& y) :: st) K μ n Q) : AW Sc M pc lv (.long y :: .long x :: st) K μ n Q :=
  fun p l e R s m args below meth c H locs cells slots Qf G ls hC hD hn hl hr => lv_land hC.1 hC.2.1 d (h p l e R s m args below meth c H locs cells slots Qf G ls hC hD hn hl hr)
theorem aw_lor {x y : Int64} (d : decode M.2.1 pc = .ok (.lor, 1)) (h : AW Sc M (pc + 1) lv (.long (x ||| y) :: st) K μ n Q) : AW Sc M pc lv (.long y :: .long x :: st) K μ n Q :=
  fun p l e R s m args below meth c H locs cells slots Qf G ls hC hD hn hl hr => lv_lor hC.1 hC.2.1 d (h p l e R s m args below meth c H locs cells slots Qf G ls hC hD hn hl hr)
theorem aw_lshl {x : Int64} {y : Int32} (d : decode M.2.1 pc = .ok (.lshl, 1)) (h : AW Sc M (pc + 1) lv (.long (x <<< (y.toInt64 &&& 63)) :: st) K μ n Q) : AW Sc M pc lv (.int y :: .long x :: st) K μ n Q :=
  fun p l e R s m args below meth c H locs cells slots Qf G ls hC hD hn hl hr => lv_lshl hC.1 hC.2.1 d rfl (h p l e R s m args below meth c H locs cells slots Qf G ls hC hD hn hl hr)
theorem aw_lcmp {x y : Int64} (d : decode M.2.1 pc = .ok (.lcmp, 1)) (h : AW Sc M (pc + 1) lv (.int (lg_cmp x y) :: st) K μ n Q) : AW Sc M pc lv (.long y :: .long x :: st) K μ n Q :=
  fun p l e R s m args below meth c H locs cells slots Qf G ls hC hD hn hl hr => W.lcmp hC.1 hC.2.1 d (h p l e R s m args below meth c H locs cells slots Qf G ls hC hD hn hl hr)
theorem aw_i2l {x : Int32} (d : decode M.2.1 pc = .ok (.i2l, 1)) (h : AW Sc M (pc + 1) lv (.long x.toInt64 :: st) K μ n Q) : AW Sc M pc lv (.int x :: st) K μ n Q :=
  fun p l e R s m args below meth c H locs cells slots Qf G ls hC hD hn hl hr => lv_i2l hC.1 hC.2.1 d rfl (h p l e R s m args below meth c H locs cells slots Qf G ls hC hD hn hl hr)
theorem aw_l2i {x : Int64} (d : decode M.2.1 pc = .ok (.l2i, 1)) (h : AW Sc M (pc + 1) lv (.int x.toInt32 :: st) K μ n Q) : AW Sc M pc lv (.long x :: st) K μ n Q :=
  fun p l e R s m args below meth c H locs cells slots Qf G ls hC hD hn hl hr => lv_l2i hC.1 hC.2.1 d rfl (h p l e R s m args below meth c H locs cells slots Qf G ls hC hD hn hl hr)
theorem aw_i2b {x : Int32} (d : decode M.2.1 pc = .ok (.i2b, 1)) (h : AW Sc M (pc + 1) lv (.int x.toInt8.toInt32 :: st) K μ n Q) : AW Sc M pc lv (.int x :: st) K μ n Q :=
  fun p l e R s m args below meth c H locs cells slots Qf G ls hC hD hn hl hr => lv_i2b hC.1 hC.2.1 d rfl (h p l e R s m args below meth c H locs cells slots Qf G ls hC hD hn hl hr)
theorem aw_i2s {x : Int32} (d : decode M.2.1 pc = .ok (.i2s, 1)) (h : AW Sc M (pc + 1) lv (.int x.toInt16.toInt32 :: st) K μ n Q) : AW Sc M pc lv (.int x :: st) K μ n Q :=
  fun p l e R s m args below meth c H locs cells slots Qf G ls hC hD hn hl hr => lv_i2s hC.1 hC.2.1 d rfl (h p l e R s m args below meth c H locs cells slots Qf G ls hC hD hn hl hr)
theorem aw_i2c {x : Int32} (d : decode M.2.1 pc = .ok (.i2c, 1)) (h : AW Sc M (pc + 1) lv (.int (x.toUInt32 % 65536).toInt32 :: st) K μ n Q) : AW Sc M pc lv (.int x :: st) K μ n Q :=
  fun p l e R s m args below meth c H locs cells slots Qf G ls hC hD hn hl hr => lv_i2c hC.1 hC.2.1 d rfl (h p l e R s m args below meth c H locs cells slots Qf G ls hC hD hn hl hr)
theorem aw_iconst {k : Int} {v : Int32} (hv : Int32.ofInt k = v) (d : decode M.2.1 pc = .ok (.iconst k, 1)) (h : AW Sc M (pc + 1) lv (.int v :: st) K μ n Q) : AW Sc M pc lv st K μ n Q :=
  fun p l e R s m args below meth c H locs cells slots Qf G ls hC hD hn hl hr => lv_iconst hC.1 hC.2.1 d hv (h p l e R s m args below meth c H locs cells slots Qf G ls hC hD hn hl hr)
theorem aw_bipush {k : Int} {v : Int32} (hv : (Int8.ofInt k).toInt32 = v) (d : decode M.2.1 pc = .ok (.bipush k, 2)) (h : AW Sc M (pc + 2) lv (.int v :: st) K μ n Q) : AW Sc M pc lv st K μ n Q :=
  fun p l e R s m args below meth c H locs cells slots Qf G ls hC hD hn hl hr => lv_bipush hC.1 hC.2.1 d hv (h p l e R s m args below meth c H locs cells slots Qf G ls hC hD hn hl hr)
theorem aw_sipush {k : Int} {v : Int32} (hv : (Int16.ofInt k).toInt32 = v) (d : decode M.2.1 pc = .ok (.sipush k, 3)) (h : AW Sc M (pc + 3) lv (.int v :: st) K μ n Q) : AW Sc M pc lv st K μ n Q :=
  fun p l e R s m args below meth c H locs cells slots Qf G ls hC hD hn hl hr => lv_sipush hC.1 hC.2.1 d hv (h p l e R s m args below meth c H locs cells slots Qf G ls hC hD hn hl hr)
theorem aw_lconst {k : Fin 2} {v : Int64} (hv : Int64.ofNat (k : Nat) = v) (d : decode M.2.1 pc = .ok (.lconst k, 1)) (h : AW Sc M (pc + 1) lv (.long v :: st) K μ n Q) : AW Sc M pc lv st K μ n Q :=
  fun p l e R s m args below meth c H locs cells slots Qf G ls hC hD hn hl hr => lv_lconst hC.1 hC.2.1 d hv (h p l e R s m args below meth c H locs cells slots Qf G ls hC hD hn hl hr)
theorem aw_null (d : decode M.2.1 pc = .ok (.aconst_null, 1)) (h : AW Sc M (pc + 1) lv (.null :: st) K μ n Q) : AW Sc M pc lv st K μ n Q :=
  fun p l e R s m args below meth c H locs cells slots Qf G ls hC hD hn hl hr => lv_null hC.1 hC.2.1 d (h p l e R s m args below meth c H locs cells slots Qf G ls hC hD hn hl hr)
theorem aw_ldc {k : Nat} {v : Int32} (hw : Cond.constant M.1.cls k v ∈ ws0) (d : decode M.2.1 pc = .ok (.ldc k, 2)) (h : AW Sc M (pc + 2) lv (.int v :: st) K μ n Q) : AW Sc M pc lv st K μ n Q :=
  fun p l e R s m args below meth c H locs cells slots Qf G ls hC hD hn hl hr => lv_ldc hC.1 hC.2.1 hC.2.2.2.1 (hC.2.2.2.2.1 _ hw) d (h p l e R s m args below meth c H locs cells slots Qf G ls hC hD hn hl hr)
theorem aw_ldc_w {k : Nat} {v : Int32} (hw : Cond.constant M.1.cls k v ∈ ws0) (d : decode M.2.1 pc = .ok (.ldc_w k, 3)) (h : AW Sc M (pc + 3) lv (.int v :: st) K μ n Q) : AW Sc M pc lv st K μ n Q :=
  fun p l e R s m args below meth c H locs cells slots Qf G ls hC hD hn hl hr => lv_ldcw hC.1 hC.2.1 hC.2.2.2.1 (hC.2.2.2.2.1 _ hw) d (h p l e R s m args below meth c H locs cells slots Qf G ls hC hD hn hl hr)
theorem aw_ldc2 {k : Nat} {v : Int64} (hw : Cond.constantLong M.1.cls k v ∈ ws0) (d : decode M.2.1 pc = .ok (.ldc2_w k, 3)) (h : AW Sc M (pc + 3) lv (.long v :: st) K μ n Q) : AW Sc M pc lv st K μ n Q :=
  fun p l e R s m args below meth c H locs cells slots Qf G ls hC hD hn hl hr => lv_ldc2 hC.1 hC.2.1 hC.2.2.2.1 (hC.2.2.2.2.1 _ hw) d (h p l e R s m args below meth c H locs cells slots Qf G ls hC hD hn hl hr)
theorem aw_ldcS (i : Nat) (hi : i < 15) (ho : M.1.cls = "EndlessTug$Tape") {k : Nat} (hk : sIdx.getD i 0 = k) (d : decode M.2.1 pc = .ok (.ldc k, 2)) (h : AW Sc M (pc + 2) lv (.ref (400 + i) :: st) K μ n Q) : AW Sc M pc lv st K μ n Q :=
  fun p l e R s m args below meth c H locs cells slots Qf G ls hC hD hn hl hr => va_ldcS (own := "EndlessTug$Tape") (tx := sTxt.getD i "") hC.1 hC.2.1 (by rw [← ho]; exact hC.2.2.2.1) (by rw [← hk]; exact hD.2.2.2.2.2.2.2.1 i hi) d (h p l e R s m args below meth c H locs cells slots Qf G ls hC hD hn hl hr)
theorem aw_iload_n {k : Fin 4} {x : Int32} (hv : lget lv (k : Nat) = some (.int x)) (d : decode M.2.1 pc = .ok (.iload_n k, 1)) (h : AW Sc M (pc + 1) lv (.int x :: st) K μ n Q) : AW Sc M pc lv st K μ n Q :=
  fun p l e R s m args below meth c H locs cells slots Qf G ls hC hD hn hl hr => lv_iload_n hC.1 hC.2.1 d rfl (lv_ld hl hv) (h p l e R s m args below meth c H locs cells slots Qf G ls hC hD hn hl hr)
theorem aw_iload {k : Nat} {x : Int32} (hv : lget lv k = some (.int x)) (d : decode M.2.1 pc = .ok (.iload k, 2)) (h : AW Sc M (pc + 2) lv (.int x :: st) K μ n Q) : AW Sc M pc lv st K μ n Q :=
  fun p l e R s m args below meth c H locs cells slots Qf G ls hC hD hn hl hr => lv_iload hC.1 hC.2.1 d (lv_ld hl hv) (h p l e R s m args below meth c H locs cells slots Qf G ls hC hD hn hl hr)
theorem aw_lload_n {k : Fin 4} {x : Int64} (hv : lget lv (k : Nat) = some (.long x)) (d : decode M.2.1 pc = .ok (.lload_n k, 1)) (h : AW Sc M (pc + 1) lv (.long x :: st) K μ n Q) : AW Sc M pc lv st K μ n Q :=
  fun p l e R s m args below meth c H locs cells slots Qf G ls hC hD hn hl hr => lv_lload_n hC.1 hC.2.1 d rfl (lv_ld hl hv) (h p l e R s m args below meth c H locs cells slots Qf G ls hC hD hn hl hr)
theorem aw_lload {k : Nat} {x : Int64} (hv : lget lv k = some (.long x)) (d : decode M.2.1 pc = .ok (.lload k, 2)) (h : AW Sc M (pc + 2) lv (.long x :: st) K μ n Q) : AW Sc M pc lv st K μ n Q :=
  fun p l e R s m args below meth c H locs cells slots Qf G ls hC hD hn hl hr => lv_lload hC.1 hC.2.1 d (lv_ld hl hv) (h p l e R s m args below meth c H locs cells slots Qf G ls hC hD hn hl hr)
theorem aw_aload_n {k : Fin 4} {x : Nat} (hv : lget lv (k : Nat) = some (.ref x)) (d : decode M.2.1 pc = .ok (.aload_n k, 1)) (h : AW Sc M (pc + 1) lv (.ref x :: st) K μ n Q) : AW Sc M pc lv st K μ n Q :=
  fun p l e R s m args below meth c H locs cells slots Qf G ls hC hD hn hl hr => lv_aload_n hC.1 hC.2.1 d rfl (lv_ld hl hv) (h p l e R s m args below meth c H locs cells slots Qf G ls hC hD hn hl hr)
theorem aw_aload {k : Nat} {x : Nat} (hv : lget lv k = some (.ref x)) (d : decode M.2.1 pc = .ok (.aload k, 2)) (h : AW Sc M (pc + 2) lv (.ref x :: st) K μ n Q) : AW Sc M pc lv st K μ n Q :=
  fun p l e R s m args below meth c H locs cells slots Qf G ls hC hD hn hl hr => lv_aload hC.1 hC.2.1 d (lv_ld hl hv) (h p l e R s m args below meth c H locs cells slots Qf G ls hC hD hn hl hr)
theorem aw_istore_n {k : Fin 4} {x : Int32} (hk : (k : Nat) < M.2.2.1) (d : decode M.2.1 pc = .ok (.istore_n k, 1)) (h : AW Sc M (pc + 1) (lset1 lv (k : Nat) (.int x)) st K μ n Q) : AW Sc M pc lv (.int x :: st) K μ n Q :=
  fun p l e R s m args below meth c H locs cells slots Qf G ls hC hD hn hl hr => lv_istore_n hC.1 hC.2.1 d rfl hl hk rfl (fun ls' hl' => h p l e R s m args below meth c H locs cells slots Qf G ls' hC hD hn (lv_st1 hl') hr)
theorem aw_istore {k : Nat} {x : Int32} (hk : k < M.2.2.1) (d : decode M.2.1 pc = .ok (.istore k, 2)) (h : AW Sc M (pc + 2) (lset1 lv k (.int x)) st K μ n Q) : AW Sc M pc lv (.int x :: st) K μ n Q :=
  fun p l e R s m args below meth c H locs cells slots Qf G ls hC hD hn hl hr => lv_istore hC.1 hC.2.1 d hl hk rfl (fun ls' hl' => h p l e R s m args below meth c H locs cells slots Qf G ls' hC hD hn (lv_st1 hl') hr)
theorem aw_astore_n {k : Fin 4} {x : Nat} (hk : (k : Nat) < M.2.2.1) (d : decode M.2.1 pc = .ok (.astore_n k, 1)) (h : AW Sc M (pc + 1) (lset1 lv (k : Nat) (.ref x)) st K μ n Q) : AW Sc M pc lv (.ref x :: st) K μ n Q :=
  fun p l e R s m args below meth c H locs cells slots Qf G ls hC hD hn hl hr => lv_astore_n hC.1 hC.2.1 d rfl hl hk rfl (fun ls' hl' => h p l e R s m args below meth c H locs cells slots Qf G ls' hC hD hn (lv_st1 hl') hr)
theorem aw_astore {k : Nat} {x : Nat} (hk : k < M.2.2.1) (d : decode M.2.1 pc = .ok (.astore k, 2)) (h : AW Sc M (pc + 2) (lset1 lv k (.ref x)) st K μ n Q) : AW Sc M pc lv (.ref x :: st) K μ n Q :=
  fun p l e R s m args below meth c H locs cells slots Qf G ls hC hD hn hl hr => lv_astore hC.1 hC.2.1 d hl hk rfl (fun ls' hl' => h p l e R s m args below meth c H locs cells slots Qf G ls' hC hD hn (lv_st1 hl') hr)
theorem aw_lstore_n {k : Fin 4} {x : Int64} (hk : (k : Nat) + 1 < M.2.2.1) (d : decode M.2.1 pc = .ok (.lstore_n k, 1)) (h : AW Sc M (pc + 1) (lset2 lv (k : Nat) (.long x)) st K μ n Q) : AW Sc M pc lv (.long x :: st) K μ n Q :=
  fun p l e R s m args below meth c H locs cells slots Qf G ls hC hD hn hl hr => lv_lstore_n hC.1 hC.2.1 d rfl hl hk rfl (fun ls' hl' => h p l e R s m args below meth c H locs cells slots Qf G ls' hC hD hn (lv_st2 hl') hr)
theorem aw_lstore {k : Nat} {x : Int64} (hk : k + 1 < M.2.2.1) (d : decode M.2.1 pc = .ok (.lstore k, 2)) (h : AW Sc M (pc + 2) (lset2 lv k (.long x)) st K μ n Q) : AW Sc M pc lv (.long x :: st) K μ n Q :=
  fun p l e R s m args below meth c H locs cells slots Qf G ls hC hD hn hl hr => lv_lstore hC.1 hC.2.1 d hl hk rfl (fun ls' hl' => h p l e R s m args below meth c H locs cells slots Qf G ls' hC hD hn (lv_st2 hl') hr)
theorem aw_iinc {i : Nat} {k : Int} {x v : Int32} (hx : lget lv i = some (.int x)) (hv : Int32.ofInt k = v) (hk : i < M.2.2.1) (d : decode M.2.1 pc = .ok (.iinc i k, 3)) (h : AW Sc M (pc + 3) (lset1 lv i (.int (x + v))) st K μ n Q) : AW Sc M pc lv st K μ n Q := by
  intro p l e R s m args below meth c H locs cells slots Qf G ls hC hD hn hl hr
  subst hv
  obtain ⟨j, hj⟩ := List.getElem?_of_mem (List.mem_map.mpr ⟨(i, .int x), lget_mem hx, rfl⟩ : (i, cv G.1 (.int x)) ∈ lv.map fun q => (q.1, cv G.1 q.2))
  exact lv_iinc (v := x + Int32.ofInt k) hC.1 hC.2.1 d hl (k := j) hj rfl hk rfl (fun ls' hl' => h p l e R s m args below meth c H locs cells slots Qf G ls' hC hD hn (lv_st1 hl') hr)
theorem aw_dup {v : Value} (hv : v.category = 1) (d : decode M.2.1 pc = .ok (.dup, 1)) (h : AW Sc M (pc + 1) lv (v :: v :: st) K μ n Q) : AW Sc M pc lv (v :: st) K μ n Q :=
  fun p l e R s m args below meth c H locs cells slots Qf G ls hC hD hn hl hr => lv_dup hC.1 hC.2.1 d (by rw [lg_cat]; exact hv) (h p l e R s m args below meth c H locs cells slots Qf G ls hC hD hn hl hr)
theorem aw_pop {v : Value} (hv : v.category = 1) (d : decode M.2.1 pc = .ok (.pop, 1)) (h : AW Sc M (pc + 1) lv st K μ n Q) : AW Sc M pc lv (v :: st) K μ n Q :=
  fun p l e R s m args below meth c H locs cells slots Qf G ls hC hD hn hl hr => lv_pop hC.1 hC.2.1 d (by rw [lg_cat]; exact hv) (h p l e R s m args below meth c H locs cells slots Qf G ls hC hD hn hl hr)
theorem aw_dup2 {v w : Value} (hv : v.category = 1) (hw : w.category = 1) (d : decode M.2.1 pc = .ok (.dup2, 1)) (h : AW Sc M (pc + 1) lv (v :: w :: v :: w :: st) K μ n Q) : AW Sc M pc lv (v :: w :: st) K μ n Q :=
  fun p l e R s m args below meth c H locs cells slots Qf G ls hC hD hn hl hr => lv_dup2_11 hC.1 hC.2.1 d (by rw [lg_cat]; exact hv) (by rw [lg_cat]; exact hw) (h p l e R s m args below meth c H locs cells slots Qf G ls hC hD hn hl hr)
theorem aw_if_eq {x : Int32} {off : Int} (tgt : Nat) (ht : (pc : Int) + off = (tgt : Int)) (d : decode M.2.1 pc = .ok (.ifCond .eq off, 3)) (kt : x = 0 → AW Sc M tgt lv st K μ n Q) (kf : ¬ x = 0 → AW Sc M (pc + 3) lv st K μ n Q) : AW Sc M pc lv (.int x :: st) K μ n Q :=
  fun p l e R s m args below meth c H locs cells slots Qf G ls hC hD hn hl hr => lv_if_eq (tgt := tgt) hC.1 hC.2.1 d ht (fun z => kt z p l e R s m args below meth c H locs cells slots Qf G ls hC hD hn hl hr) (fun z => kf z p l e R s m args below meth c H locs cells slots Qf G ls hC hD hn hl hr)
theorem aw_icmp_eq {x y : Int32} {off : Int} (tgt : Nat) (ht : (pc : Int) + off = (tgt : Int)) (d : decode M.2.1 pc = .ok (.if_icmp .eq off, 3)) (kt : x = y → AW Sc M tgt lv st K μ n Q) (kf : ¬ x = y → AW Sc M (pc + 3) lv st K μ n Q) : AW Sc M pc lv (.int y :: .int x :: st) K μ n Q :=
  fun p l e R s m args below meth c H locs cells slots Qf G ls hC hD hn hl hr => lv_icmp_eq (tgt := tgt) hC.1 hC.2.1 d ht (fun z => kt z p l e R s m args below meth c H locs cells slots Qf G ls hC hD hn hl hr) (fun z => kf z p l e R s m args below meth c H locs cells slots Qf G ls hC hD hn hl hr)
theorem aw_if_ne {x : Int32} {off : Int} (tgt : Nat) (ht : (pc : Int) + off = (tgt : Int)) (d : decode M.2.1 pc = .ok (.ifCond .ne off, 3)) (kt : ¬ x = 0 → AW Sc M tgt lv st K μ n Q) (kf : x = 0 → AW Sc M (pc + 3) lv st K μ n Q) : AW Sc M pc lv (.int x :: st) K μ n Q :=
  fun p l e R s m args below meth c H locs cells slots Qf G ls hC hD hn hl hr => lv_if_ne (tgt := tgt) hC.1 hC.2.1 d ht (fun z => kt z p l e R s m args below meth c H locs cells slots Qf G ls hC hD hn hl hr) (fun z => kf z p l e R s m args below meth c H locs cells slots Qf G ls hC hD hn hl hr)
theorem aw_icmp_ne {x y : Int32} {off : Int} (tgt : Nat) (ht : (pc : Int) + off = (tgt : Int)) (d : decode M.2.1 pc = .ok (.if_icmp .ne off, 3)) (kt : ¬ x = y → AW Sc M tgt lv st K μ n Q) (kf : x = y → AW Sc M (pc + 3) lv st K μ n Q) : AW Sc M pc lv (.int y :: .int x :: st) K μ n Q :=
  fun p l e R s m args below meth c H locs cells slots Qf G ls hC hD hn hl hr => lv_icmp_ne (tgt := tgt) hC.1 hC.2.1 d ht (fun z => kt z p l e R s m args below meth c H locs cells slots Qf G ls hC hD hn hl hr) (fun z => kf z p l e R s m args below meth c H locs cells slots Qf G ls hC hD hn hl hr)
theorem aw_if_lt {x : Int32} {off : Int} (tgt : Nat) (ht : (pc : Int) + off = (tgt : Int)) (d : decode M.2.1 pc = .ok (.ifCond .lt off, 3)) (kt : x < 0 → AW Sc M tgt lv st K μ n Q) (kf : ¬ x < 0 → AW Sc M (pc + 3) lv st K μ n Q) : AW Sc M pc lv (.int x :: st) K μ n Q :=
  fun p l e R s m args below meth c H locs cells slots Qf G ls hC hD hn hl hr => lv_if_lt (tgt := tgt) hC.1 hC.2.1 d ht (fun z => kt z p l e R s m args below meth c H locs cells slots Qf G ls hC hD hn hl hr) (fun z => kf z p l e R s m args below meth c H locs cells slots Qf G ls hC hD hn hl hr)
theorem aw_icmp_lt {x y : Int32} {off : Int} (tgt : Nat) (ht : (pc : Int) + off = (tgt : Int)) (d : decode M.2.1 pc = .ok (.if_icmp .lt off, 3)) (kt : x < y → AW Sc M tgt lv st K μ n Q) (kf : ¬ x < y → AW Sc M (pc + 3) lv st K μ n Q) : AW Sc M pc lv (.int y :: .int x :: st) K μ n Q :=
  fun p l e R s m args below meth c H locs cells slots Qf G ls hC hD hn hl hr => lv_icmp_lt (tgt := tgt) hC.1 hC.2.1 d ht (fun z => kt z p l e R s m args below meth c H locs cells slots Qf G ls hC hD hn hl hr) (fun z => kf z p l e R s m args below meth c H locs cells slots Qf G ls hC hD hn hl hr)
theorem aw_if_ge {x : Int32} {off : Int} (tgt : Nat) (ht : (pc : Int) + off = (tgt : Int)) (d : decode M.2.1 pc = .ok (.ifCond .ge off, 3)) (kt : 0 ≤ x → AW Sc M tgt lv st K μ n Q) (kf : ¬ 0 ≤ x → AW Sc M (pc + 3) lv st K μ n Q) : AW Sc M pc lv (.int x :: st) K μ n Q :=
  fun p l e R s m args below meth c H locs cells slots Qf G ls hC hD hn hl hr => lv_if_ge (tgt := tgt) hC.1 hC.2.1 d ht (fun z => kt z p l e R s m args below meth c H locs cells slots Qf G ls hC hD hn hl hr) (fun z => kf z p l e R s m args below meth c H locs cells slots Qf G ls hC hD hn hl hr)
theorem aw_icmp_ge {x y : Int32} {off : Int} (tgt : Nat) (ht : (pc : Int) + off = (tgt : Int)) (d : decode M.2.1 pc = .ok (.if_icmp .ge off, 3)) (kt : y ≤ x → AW Sc M tgt lv st K μ n Q) (kf : ¬ y ≤ x → AW Sc M (pc + 3) lv st K μ n Q) : AW Sc M pc lv (.int y :: .int x :: st) K μ n Q :=
  fun p l e R s m args below meth c H locs cells slots Qf G ls hC hD hn hl hr => lv_icmp_ge (tgt := tgt) hC.1 hC.2.1 d ht (fun z => kt z p l e R s m args below meth c H locs cells slots Qf G ls hC hD hn hl hr) (fun z => kf z p l e R s m args below meth c H locs cells slots Qf G ls hC hD hn hl hr)
theorem aw_if_gt {x : Int32} {off : Int} (tgt : Nat) (ht : (pc : Int) + off = (tgt : Int)) (d : decode M.2.1 pc = .ok (.ifCond .gt off, 3)) (kt : 0 < x → AW Sc M tgt lv st K μ n Q) (kf : ¬ 0 < x → AW Sc M (pc + 3) lv st K μ n Q) : AW Sc M pc lv (.int x :: st) K μ n Q :=
  fun p l e R s m args below meth c H locs cells slots Qf G ls hC hD hn hl hr => lv_if_gt (tgt := tgt) hC.1 hC.2.1 d ht (fun z => kt z p l e R s m args below meth c H locs cells slots Qf G ls hC hD hn hl hr) (fun z => kf z p l e R s m args below meth c H locs cells slots Qf G ls hC hD hn hl hr)
theorem aw_icmp_gt {x y : Int32} {off : Int} (tgt : Nat) (ht : (pc : Int) + off = (tgt : Int)) (d : decode M.2.1 pc = .ok (.if_icmp .gt off, 3)) (kt : y < x → AW Sc M tgt lv st K μ n Q) (kf : ¬ y < x → AW Sc M (pc + 3) lv st K μ n Q) : AW Sc M pc lv (.int y :: .int x :: st) K μ n Q :=
  fun p l e R s m args below meth c H locs cells slots Qf G ls hC hD hn hl hr => lv_icmp_gt (tgt := tgt) hC.1 hC.2.1 d ht (fun z => kt z p l e R s m args below meth c H locs cells slots Qf G ls hC hD hn hl hr) (fun z => kf z p l e R s m args below meth c H locs cells slots Qf G ls hC hD hn hl hr)
theorem aw_if_le {x : Int32} {off : Int} (tgt : Nat) (ht : (pc : Int) + off = (tgt : Int)) (d : decode M.2.1 pc = .ok (.ifCond .le off, 3)) (kt : x ≤ 0 → AW Sc M tgt lv st K μ n Q) (kf : ¬ x ≤ 0 → AW Sc M (pc + 3) lv st K μ n Q) : AW Sc M pc lv (.int x :: st) K μ n Q :=
  fun p l e R s m args below meth c H locs cells slots Qf G ls hC hD hn hl hr => lv_if_le (tgt := tgt) hC.1 hC.2.1 d ht (fun z => kt z p l e R s m args below meth c H locs cells slots Qf G ls hC hD hn hl hr) (fun z => kf z p l e R s m args below meth c H locs cells slots Qf G ls hC hD hn hl hr)
theorem aw_icmp_le {x y : Int32} {off : Int} (tgt : Nat) (ht : (pc : Int) + off = (tgt : Int)) (d : decode M.2.1 pc = .ok (.if_icmp .le off, 3)) (kt : x ≤ y → AW Sc M tgt lv st K μ n Q) (kf : ¬ x ≤ y → AW Sc M (pc + 3) lv st K μ n Q) : AW Sc M pc lv (.int y :: .int x :: st) K μ n Q :=
  fun p l e R s m args below meth c H locs cells slots Qf G ls hC hD hn hl hr => lv_icmp_le (tgt := tgt) hC.1 hC.2.1 d ht (fun z => kt z p l e R s m args below meth c H locs cells slots Qf G ls hC hD hn hl hr) (fun z => kf z p l e R s m args below meth c H locs cells slots Qf G ls hC hD hn hl hr)
theorem aw_goto {off : Int} (tgt : Nat) (ht : (pc : Int) + off = (tgt : Int)) (d : decode M.2.1 pc = .ok (.goto off, 3)) (h : AW Sc M tgt lv st K μ n Q) : AW Sc M pc lv st K μ n Q :=
  fun p l e R s m args below meth c H locs cells slots Qf G ls hC hD hn hl hr => lv_goto (tgt := tgt) hC.1 hC.2.1 d ht (h p l e R s m args below meth c H locs cells slots Qf G ls hC hD hn hl hr)
theorem aw_ifnull_r {q : Nat} {off : Int} (d : decode M.2.1 pc = .ok (.ifnull off, 3)) (h : AW Sc M (pc + 3) lv st K μ n Q) : AW Sc M pc lv (.ref q :: st) K μ n Q :=
  fun p l e R s m args below meth c H locs cells slots Qf G ls hC hD hn hl hr => lv_ifnull hC.1 hC.2.1 d (h p l e R s m args below meth c H locs cells slots Qf G ls hC hD hn hl hr)
theorem aw_ifnull_n {off : Int} (tgt : Nat) (ht : (pc : Int) + off = (tgt : Int)) (d : decode M.2.1 pc = .ok (.ifnull off, 3)) (h : AW Sc M tgt lv st K μ n Q) : AW Sc M pc lv (.null :: st) K μ n Q :=
  fun p l e R s m args below meth c H locs cells slots Qf G ls hC hD hn hl hr => lv_ifnullN (tgt := tgt) hC.1 hC.2.1 d ht (h p l e R s m args below meth c H locs cells slots Qf G ls hC hD hn hl hr)
theorem aw_tabOut {x : Int32} {dflt lo hi : Int} {offs : Array Int} {len : Nat} (tgt : Nat) (hx : x.toInt < lo ∨ hi < x.toInt) (ht : (pc : Int) + dflt = (tgt : Int)) (d : decode M.2.1 pc = .ok (.tableswitch dflt lo hi offs, len)) (h : AW Sc M tgt lv st K μ n Q) : AW Sc M pc lv (.int x :: st) K μ n Q :=
  fun p l e R s m args below meth c H locs cells slots Qf G ls hC hD hn hl hr => lv_tableOut (tgt := tgt) hC.1 hC.2.1 d hx ht (h p l e R s m args below meth c H locs cells slots Qf G ls hC hD hn hl hr)
theorem aw_tabIn {x : Int32} {dflt lo hi off : Int} {offs : Array Int} {len : Nat} (tgt : Nat) (h1 : ¬ x.toInt < lo) (h2 : ¬ hi < x.toInt) (ho : offs[(x.toInt - lo).toNat]? = some off) (ht : (pc : Int) + off = (tgt : Int)) (d : decode M.2.1 pc = .ok (.tableswitch dflt lo hi offs, len)) (h : AW Sc M tgt lv st K μ n Q) : AW Sc M pc lv (.int x :: st) K μ n Q :=
  fun p l e R s m args below meth c H locs cells slots Qf G ls hC hD hn hl hr => lv_tableIn (tgt := tgt) hC.1 hC.2.1 d h1 h2 ho ht (h p l e R s m args below meth c H locs cells slots Qf G ls hC hD hn hl hr)
theorem aw_ireturn {x : Int32} (d : decode M.2.1 pc = .ok (.ireturn, 1)) (hr : ∃ ty, M.2.2.2.1 = some ty ∧ narrow ty (.int x) = .int x) (hq : Q (some (.int x)) K μ) : AW Sc M pc lv [.int x] K μ n Q :=
  fun _ _ _ _ _ _ _ _ _ _ H locs cells slots _ _ ls _ hD hn _ h => h (some (.int x)) pc ls H locs cells slots K μ ⟨d, hr⟩ hq hD ⟨by omega, by omega⟩
theorem aw_iret {x : Int32} (d : decode M.2.1 pc = .ok (.ireturn, 1)) (hr : M.2.2.2.1 = some .int) (hq : Q (some (.int x)) K μ) : AW Sc M pc lv [.int x] K μ n Q := aw_ireturn d ⟨.int, hr, rfl⟩ hq
theorem aw_lreturn {x : Int64} (d : decode M.2.1 pc = .ok (.lreturn, 1)) (hr : M.2.2.2.1 = some .long) (hq : Q (some (.long x)) K μ) : AW Sc M pc lv [.long x] K μ n Q :=
  fun _ _ _ _ _ _ _ _ _ _ H locs cells slots _ _ ls _ hD hn _ h => h (some (.long x)) pc ls H locs cells slots K μ ⟨d, hr⟩ hq hD ⟨by omega, by omega⟩
theorem aw_return (d : decode M.2.1 pc = .ok (.return_, 1)) (hr : M.2.2.2.1 = none) (hq : Q none K μ) : AW Sc M pc lv [] K μ n Q :=
  fun _ _ _ _ _ _ _ _ _ _ H locs cells slots _ _ ls _ hD hn _ h => h none pc ls H locs cells slots K μ ⟨d, hr⟩ hq hD ⟨by omega, by omega⟩
end ARules
end
section
/-! THE ABSTRACT MACHINE, 5: fields, arrays, new cells, the JDK's natives -/
/-- field k of the class ci, reached from own's pool entry idx -/
def FLk (own : String) (idx ci k : Nat) : Prop := ∃ (C : String) (T : u_T) (N : Nat), cls13[ci]? = some (C, T, N) ∧ k < N ∧ nF ci = N ∧ Cond.fieldLink own idx (T k).1 (T k).2.1 (T k).2.2.1 ∈ ws0 ∧ (∀ w ∈ u_ws C T N, w ∈ ws0)
/-- .. and written there (fin: it is final, and this is its own constructor) -/
def FPk (own nm : String) (idx ci k : Nat) : Prop := ∃ (C : String) (T : u_T) (N : Nat), cls13[ci]? = some (C, T, N) ∧ k < N ∧ nF ci = N ∧ Cond.fieldLink own idx (T k).1 (T k).2.1 (T k).2.2.1 ∈ ws0 ∧ (∀ w ∈ u_ws C T N, w ∈ ws0) ∧
  (∀ k, k < N → parseFieldDescriptor (T k).2.2.1 = some (tyF ci k)) ∧ (∀ a, a < N → ∀ b, b < N → a ≠ b → (T a).2.1 ≠ (T b).2.1) ∧ ((T k).2.2.2 = false ∨ ((T k).2.2.2 = true ∧ nm = "<init>" ∧ (T k).1 = own))
section AHeap
variable {Sc : SCR} {M : MD} {pc idx ci k q : Nat} {lv : List (Nat × Value)} {st : List Value} {K : List kd} {μ : Mem} {n : Nat × Nat} {Q : PQ}
theorem aw_get0 (hf : FLk M.1.cls idx ci k) (hK : K[q]? = some (.inl ci)) {t : Nat} (ht : ftc (tyF ci k) = t) {v : Value} (hv : ∀ ad, fv ad t μ q k = cv ad v) (d : decode M.2.1 pc = .ok (.getfield idx, 3))
    (h : AW Sc M (pc + 3) lv (v :: st) K μ n Q) : AW Sc M pc lv (.ref q :: st) K μ n Q := by
  intro p l e R s m args below meth c H locs cells slots Qf G ls hC hD hn hl hr
  obtain ⟨C, T, N, hc, hk, hN, hlk, hin⟩ := hf
  refine va_get (C := C) (T := T) (N := N) hC.1 hC.2.1 hC.2.2.2.2.1 hin hC.2.2.2.1 hD.1 hD.2.1 q (wl_get hK) hc k hk (hC.2.2.2.2.1 _ hlk) (fun _ h9 => h9) (fls_get (by rw [hN]; exact hk)) d ?_
  rw [ht, hv]
  exact h p l e R s m args below meth c H locs cells slots Qf G ls hC hD hn hl hr
theorem aw_getI (hf : FLk M.1.cls idx ci k) (hK : K[q]? = some (.inl ci)) (ht : ftc (tyF ci k) = 0) (d : decode M.2.1 pc = .ok (.getfield idx, 3)) (h : AW Sc M (pc + 3) lv (.int (μ.1 q k) :: st) K μ n Q) : AW Sc M pc lv (.ref q :: st) K μ n Q := aw_get0 hf hK ht (fun _ => rfl) d h
theorem aw_getJ (hf : FLk M.1.cls idx ci k) (hK : K[q]? = some (.inl ci)) (ht : ftc (tyF ci k) = 1) (d : decode M.2.1 pc = .ok (.getfield idx, 3)) (h : AW Sc M (pc + 3) lv (.long (μ.2.1 q k) :: st) K μ n Q) : AW Sc M pc lv (.ref q :: st) K μ n Q := aw_get0 hf hK ht (fun _ => rfl) d h
theorem aw_getR {r : Nat} (hf : FLk M.1.cls idx ci k) (hK : K[q]? = some (.inl ci)) (ht : ftc (tyF ci k) = 2) (hr : μ.2.2 q k = some r) (d : decode M.2.1 pc = .ok (.getfield idx, 3)) (h : AW Sc M (pc + 3) lv (.ref r :: st) K μ n Q) : AW Sc M pc lv (.ref q :: st) K μ n Q := aw_get0 hf hK ht (fun ad => by simp [fv, hr, va_rf, cv]) d h
/-- a store into the cell at place q -/
theorem Dy.put {G : GT} {s : State} {H H1 : Heap} {locs : List Loc} {μ' : Mem} {k0 : kd} (hD : Dy Sc G s H locs K μ) (hK : K[q]? = some k0) (he : va_at G.2.2.1 cls13 (G.1 q, cellE G k0 μ' q) H1) (ho : ∀ q', q' ≠ q → ∀ k, cellE G k μ' q' = cellE G k μ q') (z : H1.size = H.size) (oq : ∀ a, a ≠ G.1 q → H1[a]? = H[a]?) (i : Nat) : Dy Sc G s H1 (locs ++ [⟨G.1 q, i⟩]) K μ' := by
  have hap := hD.D
  obtain ⟨d1, d2, dS, d3, d4, d5, d6, d7⟩ := hD
  refine ⟨d1, ?_, dS.put z oq (hap.2 q _ (wl_get hK)), by rw [z]; exact d3, d4, d5, d6, d7⟩
  rw [← wl_set hK rfl ho]
  exact d2.set hap (wl_get hK) he oq
theorem aw_put0 {nmM : String} (hf : FPk M.1.cls M.1.name idx ci k) (hK : K[q]? = some (.inl ci)) {v : Value} {μ' : Mem} (hn1 : ∀ ad, narrow (tyF ci k) (cv ad v) = cv ad v) (hfit : ∀ ad, fits (tyF ci k) (cv ad v) = true) (hset : ∀ ad, (fls ad ci μ q).set k (cv ad v) = fls ad ci μ' q) (ho : ∀ (G : GT) q', q' ≠ q → ∀ k, cellE G k μ' q' = cellE G k μ q') (d : decode M.2.1 pc = .ok (.putfield idx, 3))
    (h : AW Sc M (pc + 3) lv st K μ' n Q) : AW Sc M pc lv (v :: .ref q :: st) K μ n Q := by
  intro p l e R s m args below meth c H locs cells slots Qf G ls hC hD hn hl hr
  obtain ⟨C, T, N, hc, hk, hN, hlk, hin, hty, hnm, hfin⟩ := hf
  obtain ⟨hx, hb, hml, hown, hts, hret, hlocks, hname, hR1, hR2⟩ := id hC
  have hap := va_apart (own := M.1.cls) hts hin (tyF ci) hty hnm hD.1 hc
  obtain ⟨r, h1, cell, q1, q2, q3, q4⟩ := hD.2.1 q _ (wl_get hK)
  cases h1.symm.trans hc
  obtain ⟨hS, hfc, kC, hkC, hkind⟩ := hD.1.1 ci _ hc
  obtain ⟨cf, kf, fi, f, hi, hsl⟩ := hS k hk
  have hst := (u_facts hfc hkC (u_lays hts hin hk) hi).1
  have hlay := hts _ (hin _ (u_in_lay hk))
  unfold u_lay at hlay
  have fin : ∀ H' : Heap, H'[G.1 q]? = some (cell.setSlot f.slot (cv G.1 v)) → H'.size = H.size → (∀ a, a ≠ G.1 q → H'[a]? = H[a]?) → W p l e R s m args below meth c H' (locs ++ [⟨G.1 q, f.slot⟩]) cells slots Qf (F0 m (pc + 3) ls (st.map (cv G.1))) := by
    intro H' e1 e2 e3
    refine h p l e R s m args below meth c H' _ cells slots Qf G ls hC (hD.put hK ⟨_, hc, ?_⟩ (ho G) e2 e3 f.slot) hn hl hr
    rw [← hset G.1]
    rw [hsl] at e1
    exact t_OB.to (V := updV (vp_V (fls G.1 ci μ q)) k (cv G.1 v)) ⟨_, e1, q2, q3, t_set q4 hap hk _⟩ (fun j _ => vp_updV_set (by rw [fls_len, hN]; exact hk) _ j)
  rcases hfin with hfin | ⟨hfin, hini, hdecl⟩
  · rw [if_neg (by rw [hfin]; decide)] at hlay
    have h6 := u_store hfc hkC hkind hlay hi (hty k hk) (hn1 G.1) (hfit G.1)
    exact W.putK hx hb (f := f) ⟨hown, hts _ hlk, ⟨_, _, _, hi⟩, hst⟩ (by rw [q2]; exact h6) q1 q3 (by rw [hsl]; exact k2_hasslot (q4 k hk)) rfl rfl d fin
  · rw [if_pos hfin] at hlay
    have hcf : m.cls = cf := by
      obtain ⟨_, _, c', _, _, _, -, -, hf', -, -, -, hown2, -⟩ := Cond.laysFinal_spec hlay
      have e1 : c' = cf := by have := hi.symm.trans hf'; simp at this; exact this.1.symm
      rw [hdecl] at hown2
      rw [← e1]; exact Option.some.inj (hown.symm.trans hown2)
    have h6 := u_fits hfc hkC hkind (Or.inr hlay) hi (hty k hk) (hn1 G.1) (hfit G.1)
    exact W.putFinK hx hb hown (hts _ hlk) hi hst hcf (hname.trans hini) (by rw [q2]; exact h6) q1 q3 (by rw [hsl]; exact k2_hasslot (q4 k hk)) rfl rfl d fin
theorem FLk.lt {own : String} (h : FLk own idx ci k) : k < nF ci := by
  obtain ⟨C, T, N, -, hk, hN, -⟩ := h
  rw [hN]; exact hk
theorem FPk.lt {own nm : String} (h : FPk own nm idx ci k) : k < nF ci := by
  obtain ⟨C, T, N, -, hk, hN, -⟩ := h
  rw [hN]; exact hk
theorem aw_putI {x : Int32} (hf : FPk M.1.cls M.1.name idx ci k) (hK : K[q]? = some (.inl ci)) (ht : ftc (tyF ci k) = 0) (hn1 : narrow (tyF ci k) (.int x) = .int x) (hfit : fits (tyF ci k) (.int x) = true) (d : decode M.2.1 pc = .ok (.putfield idx, 3)) (h : AW Sc M (pc + 3) lv st K (pI μ q k x) n Q) : AW Sc M pc lv (.int x :: .ref q :: st) K μ n Q :=
  aw_put0 (nmM := "") hf hK (fun _ => hn1) (fun _ => hfit) (fun _ => fls_pI hf.lt ht) (fun _ _ hq => cell_pI μ k x hq) d h
theorem aw_putJ {x : Int64} (hf : FPk M.1.cls M.1.name idx ci k) (hK : K[q]? = some (.inl ci)) (ht : tyF ci k = .long) (d : decode M.2.1 pc = .ok (.putfield idx, 3)) (h : AW Sc M (pc + 3) lv st K (pJ μ q k x) n Q) : AW Sc M pc lv (.long x :: .ref q :: st) K μ n Q :=
  aw_put0 (nmM := "") hf hK (fun _ => by rw [ht]; rfl) (fun _ => by rw [ht]; rfl) (fun _ => fls_pJ hf.lt (by rw [ht]; rfl)) (fun _ _ hq => cell_pJ μ k x hq) d h
theorem aw_putR {x : Nat} (hf : FPk M.1.cls M.1.name idx ci k) (hK : K[q]? = some (.inl ci)) (ht : ftc (tyF ci k) = 2) (hn1 : ∀ a, narrow (tyF ci k) (.ref a) = .ref a) (hfit : ∀ a, fits (tyF ci k) (.ref a) = true) (d : decode M.2.1 pc = .ok (.putfield idx, 3)) (h : AW Sc M (pc + 3) lv st K (pR μ q k (some x)) n Q) : AW Sc M pc lv (.ref x :: .ref q :: st) K μ n Q :=
  aw_put0 (nmM := "") hf hK (fun ad => hn1 (ad x)) (fun ad => hfit (ad x)) (fun _ => fls_pR hf.lt ht) (fun _ _ hq => cell_pR μ k (some x) hq) d h
/-! arrays -/
theorem aw_iaload {i : Int32} {N : Nat} (hK : K[q]? = some (.inr (0, N))) (hi : vp_in i N) (d : decode M.2.1 pc = .ok (.iaload, 1)) (h : AW Sc M (pc + 1) lv (.int (μ.1 q i.toNatClampNeg) :: st) K μ n Q) : AW Sc M pc lv (.int i :: .ref q :: st) K μ n Q :=
  fun p l e R s m args below meth c H locs cells slots Qf G ls hC hD hn hl hr => va_iald hC.1 hC.2.1 hD.1 hD.2.1 q 0 (wl_get hK) rfl hi d (h p l e R s m args below meth c H locs cells slots Qf G ls hC hD hn hl hr)
theorem aw_caload {i : Int32} {N : Nat} (hK : K[q]? = some (.inr (2, N))) (hi : vp_in i N) (d : decode M.2.1 pc = .ok (.caload, 1)) (h : AW Sc M (pc + 1) lv (.int (μ.1 q i.toNatClampNeg) :: st) K μ n Q) : AW Sc M pc lv (.int i :: .ref q :: st) K μ n Q :=
  fun p l e R s m args below meth c H locs cells slots Qf G ls hC hD hn hl hr => va_cald hC.1 hC.2.1 hD.1 hD.2.1 q 2 (wl_get hK) rfl hi d (h p l e R s m args below meth c H locs cells slots Qf G ls hC hD hn hl hr)
theorem aw_laload {i : Int32} {N : Nat} (hK : K[q]? = some (.inr (1, N))) (hi : vp_in i N) (d : decode M.2.1 pc = .ok (.laload, 1)) (h : AW Sc M (pc + 1) lv (.long (μ.2.1 q i.toNatClampNeg) :: st) K μ n Q) : AW Sc M pc lv (.int i :: .ref q :: st) K μ n Q :=
  fun p l e R s m args below meth c H locs cells slots Qf G ls hC hD hn hl hr => va_lald hC.1 hC.2.1 hD.1 hD.2.1 q 1 (wl_get hK) rfl hi d (h p l e R s m args below meth c H locs cells slots Qf G ls hC hD hn hl hr)
theorem aw_aaload {i : Int32} {N t r : Nat} {C : String} (hK : K[q]? = some (.inr (t + 3, N))) (ht : ∀ dA, (tyl dA)[t + 3]? = some (dA (t + 3), .object C)) (hi : vp_in i N) (hr : μ.2.2 q i.toNatClampNeg = some r) (d : decode M.2.1 pc = .ok (.aaload, 1)) (h : AW Sc M (pc + 1) lv (.ref r :: st) K μ n Q) : AW Sc M pc lv (.int i :: .ref q :: st) K μ n Q := by
  intro p l e R s m args below meth c H locs cells slots Qf G ls hC hD hn hl hr'
  refine va_aldq hC.1 hC.2.1 hD.1 hD.2.1 q (t + 3) (wl_get hK) (ht _) hi d ?_
  rw [hr]
  exact h p l e R s m args below meth c H locs cells slots Qf G ls hC hD hn hl hr'
theorem aw_alen {N t : Nat} {ty : FieldType} (hK : K[q]? = some (.inr (t, N))) (ht : ∀ dA, (tyl dA)[t]? = some (dA t, ty)) (d : decode M.2.1 pc = .ok (.arraylength, 1)) (h : AW Sc M (pc + 1) lv (.int (nI N) :: st) K μ n Q) : AW Sc M pc lv (.ref q :: st) K μ n Q :=
  fun p l e R s m args below meth c H locs cells slots Qf G ls hC hD hn hl hr => va_alen hC.1 hC.2.1 hD.1 hD.2.1 q t (wl_get hK) (ht _) (v := nI N) rfl d (h p l e R s m args below meth c H locs cells slots Qf G ls hC hD hn hl hr)
theorem arr_put {cA : ClassId} {N i : Nat} {f g : Nat → Value} {v : Value} {H1 : Heap} {a : Nat} (e : H1[a]? = some ((arrV cA N f).setSlot i v)) (hg : ∀ j, g j = if j = i then v else f j) : H1[a]? = some (arrV cA N g) := by
  rw [e, arrV_store]
  congr 2
  funext j
  exact (hg j).symm
theorem aw_iastore {i x : Int32} {N : Nat} (hK : K[q]? = some (.inr (0, N))) (hi : vp_in i N) (d : decode M.2.1 pc = .ok (.iastore, 1)) (h : AW Sc M (pc + 1) lv st K (pI μ q i.toNatClampNeg x) n Q) : AW Sc M pc lv (.int x :: .int i :: .ref q :: st) K μ n Q := by
  intro p l e R s m args below meth c H locs cells slots Qf G ls hC hD hn hl hr
  refine W.iast hC.1 hC.2.1 (hD.2.1 q _ (wl_get hK)) ((hD.1.2 0 _ rfl).1 N (fun j => .int (μ.1 q j))) (fun q => by cases q) (by show ¬ (i < 0 ∨ (arrV _ _ _).slots.size ≤ _); rw [arrV_size]; exact hi) rfl rfl d fun H1 e1 z oq => ?_
  refine h p l e R s m args below meth c H1 _ cells slots Qf G ls hC (hD.put hK ?_ (fun _ hq => cell_pI μ _ x hq) z oq _) hn hl hr
  show H1[G.1 q]? = some (arrV (G.2.1 0) N (fun j => .int ((pI μ q i.toNatClampNeg x).1 q j)))
  exact arr_put (f := fun j => .int (μ.1 q j)) e1 (fun j => by simp only [pI, va_up, upd, if_true]; split <;> rfl)
theorem aw_castore {i x : Int32} {N : Nat} (hK : K[q]? = some (.inr (2, N))) (hi : vp_in i N) (hx : narrow .char (.int x) = .int x) (d : decode M.2.1 pc = .ok (.castore, 1)) (h : AW Sc M (pc + 1) lv st K (pI μ q i.toNatClampNeg x) n Q) : AW Sc M pc lv (.int x :: .int i :: .ref q :: st) K μ n Q := by
  intro p l e R s m args below meth c H locs cells slots Qf G ls hC hD hn hl hr
  refine W.cast hC.1 hC.2.1 (hD.2.1 q _ (wl_get hK)) ((hD.1.2 2 _ rfl).1 N (fun j => .int (μ.1 q j))) (fun q => by cases q) (by show ¬ (i < 0 ∨ (arrV _ _ _).slots.size ≤ _); rw [arrV_size]; exact hi) rfl rfl d fun H1 e1 z oq => ?_
  refine h p l e R s m args below meth c H1 _ cells slots Qf G ls hC (hD.put hK ?_ (fun _ hq => cell_pI μ _ x hq) z oq _) hn hl hr
  rw [hx] at e1
  show H1[G.1 q]? = some (arrV (G.2.1 2) N (fun j => .int ((pI μ q i.toNatClampNeg x).1 q j)))
  exact arr_put (f := fun j => .int (μ.1 q j)) e1 (fun j => by simp only [pI, va_up, upd, if_true]; split <;> rfl)
theorem aw_lastore {i : Int32} {x : Int64} {N : Nat} (hK : K[q]? = some (.inr (1, N))) (hi : vp_in i N) (d : decode M.2.1 pc = .ok (.lastore, 1)) (h : AW Sc M (pc + 1) lv st K (pJ μ q i.toNatClampNeg x) n Q) : AW Sc M pc lv (.long x :: .int i :: .ref q :: st) K μ n Q := by
  intro p l e R s m args below meth c H locs cells slots Qf G ls hC hD hn hl hr
  refine W.last hC.1 hC.2.1 (hD.2.1 q _ (wl_get hK)) ((hD.1.2 1 _ rfl).1 N (fun j => .long (μ.2.1 q j))) (fun q => by cases q) (by show ¬ (i < 0 ∨ (arrV _ _ _).slots.size ≤ _); rw [arrV_size]; exact hi) rfl rfl d fun H1 e1 z oq => ?_
  refine h p l e R s m args below meth c H1 _ cells slots Qf G ls hC (hD.put hK ?_ (fun _ hq => cell_pJ μ _ x hq) z oq _) hn hl hr
  show H1[G.1 q]? = some (arrV (G.2.1 1) N (fun j => .long ((pJ μ q i.toNatClampNeg x).2.1 q j)))
  exact arr_put (f := fun j => .long (μ.2.1 q j)) e1 (fun j => by simp only [pJ, va_up, vp_updL, if_true]; split <;> rfl)
theorem aw_aastore {i : Int32} {N t r cr : Nat} {C C' : String} (hK : K[q]? = some (.inr (t + 3, N))) (ht : ∀ dA, (tyl dA)[t + 3]? = some (dA (t + 3), .object C)) (hi : vp_in i N) (hKr : K[r]? = some (.inl cr)) (hcr : (cls13[cr]?).map (fun r => r.1) = some C') (hca : C' = C ∨ (C = "EndlessTug$Man" ∧ C' ∈ castL)) (d : decode M.2.1 pc = .ok (.aastore, 1))
    (h : AW Sc M (pc + 1) lv st K (pR μ q i.toNatClampNeg (some r)) n Q) : AW Sc M pc lv (.ref r :: .int i :: .ref q :: st) K μ n Q := by
  intro p l e R s m args below meth c H locs cells slots Qf G ls hC hD hn hl hr
  have hlt : i.toNatClampNeg < N := Nat.not_le.mp fun q => hi (Or.inr q)
  have h0 : ¬ i < 0 := fun q => hi (Or.inl q)
  cases hc : cls13[cr]? with
  | none => rw [hc] at hcr; cases hcr
  | some rc =>
    rw [hc] at hcr
    cases hcr
    obtain ⟨r', hr', cellV, g1, g2, g3, -⟩ := hD.2.1 r _ (wl_get hKr)
    have hcls := (hD.1.1 cr rc hc).2
    obtain ⟨kA, comp, k1, k2, k3, -⟩ := (hD.1.2 (t + 3) _ (ht _)).2
    obtain ⟨kE, hkE, -⟩ := Vm.findClass_spec k3
    have hasg : s.vm.assignable (G.2.2.1.1 cr) comp = true := by
      rcases hca with hca | ⟨rfl, hca⟩
      · have e1 : s.vm.findClass rc.1 = some comp := by rw [show rc.1 = C from hca]; exact k3
        cases hcls.1.symm.trans e1
        exact va_assign hcls
      · obtain ⟨c0, t1, f1, f2, f3⟩ := Cond.castable_spec (va_Nw.use (A := args) rfl (hD.2.2.2.2.2.2.2.2.2.2.2.2.2.1 _ hca))
        cases hcls.1.symm.trans f1
        cases k3.symm.trans f2
        exact f3
    obtain ⟨kC, hkC, -⟩ := hcls.2
    refine W.aast hC.1 hC.2.1 (hD.2.1 q _ (wl_get hK)) (fun q h => by cases h) (fun h => by cases h) k1 k2 rfl hkE ⟨h0, by show _ < (arrV _ _ _).slots.size; rw [arrV_size]; exact hlt⟩ g1 (fun q h => by rw [g3] at h; cases h) (by rw [g2]; exact hkC) (by rw [g2]; exact hasg) rfl rfl d fun H1 e1 z oq => ?_
    refine h p l e R s m args below meth c H1 _ cells slots Qf G ls hC (hD.put hK ?_ (fun _ hq => cell_pR μ _ (some r) hq) z oq _) hn hl hr
    show H1[G.1 q]? = some (arrV (G.2.1 (t + 3)) N (fun j => va_rf (((pR μ q i.toNatClampNeg (some r)).2.2 q j).map G.1)))
    exact arr_put (f := fun j => va_rf ((μ.2.2 q j).map G.1)) e1 (fun j => by simp only [pR, va_up, if_true]; split <;> rfl)
/-! new cells -/
theorem Dy.push {G : GT} {s : State} {H H1 : Heap} {locs : List Loc} {k0 : kd} {μ' : Mem} (hD : Dy Sc G s H locs K μ) (hl : K.length < 400) (he : va_at G.2.2.1 cls13 (H.size, cellE G k0 μ' K.length) H1) (ho : ∀ q', q' ≠ K.length → ∀ k, cellE G k μ' q' = cellE G k μ q') (z : H1.size = H.size + 1) (oq : ∀ a, a < H.size → H1[a]? = H[a]?) : Dy Sc G s H1 locs (K ++ [k0]) μ' := by
  obtain ⟨d1, d2, dS, d3, d4, d5, d6, d7⟩ := hD
  refine ⟨d1, ?_, ⟨Nat.le_trans dS.1 (by omega), fun x h1 h2 => (oq x (Nat.lt_of_lt_of_le h1 dS.1)).trans (dS.2.1 x h1 h2), dS.2.2⟩, by rw [z, d3, List.length_append, List.length_singleton]; omega, d4, by rw [List.length_append, List.length_singleton]; omega, d6, d7⟩
  rw [wl_push ho]
  refine (d2.kept (fun k x hx => oq x.1 ((d2 k x hx).lt))).app (fun k x hx => ?_)
  have hz : k < 1 := (List.getElem?_eq_some_iff.mp hx).1
  rw [show k = 0 by omega] at hx
  cases hx
  rw [d6 _ hl, ← d3]
  exact he
def NWk (own : String) (idx ci : Nat) : Prop := ∃ (C : String) (T : u_T) (N : Nat), cls13[ci]? = some (C, T, N) ∧ nF ci = N ∧ (∀ w ∈ ([.classLink own idx C, .instantiable C N, .initialized C] : List Cond), w ∈ ws0) ∧ (∀ w ∈ u_ws C T N, w ∈ ws0) ∧ (∀ k, k < N → parseFieldDescriptor (T k).2.2.1 = some (tyF ci k)) ∧ (∀ k, k < N → ∀ ad p, defaultValue (tyF ci k) = fv ad (ftc (tyF ci k)) (p0 (fun _ _ => 0, fun _ _ => 0, fun _ _ => none) p) p k)
theorem fv_p0 (ad : Nat → Nat) (t : Nat) (μ μ' : Mem) (p k : Nat) : fv ad t (p0 μ p) p k = fv ad t (p0 μ' p) p k := by
  simp [fv, p0, va_up]
theorem aw_new (hk : NWk M.1.cls idx ci) (hl : K.length < 400) (hn1 : 1 ≤ n.1 ∧ nF ci ≤ n.2) (d : decode M.2.1 pc = .ok (.new idx, 3)) (h : AW Sc M (pc + 3) lv (.ref K.length :: st) (K ++ [.inl ci]) (p0 μ K.length) (n.1 - 1, n.2 - nF ci) Q) : AW Sc M pc lv st K μ n Q := by
  intro p l e R s m args below meth c H locs cells slots Qf G ls hC hD hn hl' hr
  obtain ⟨C, T, N, hc, hN, hw, hin, hty, hdf⟩ := hk
  have hKn := hD.1.1 ci _ hc
  have hts := hC.2.2.2.2.1
  refine W.newcK (C := C) (n := N) hC.1 hC.2.1 hC.2.2.2.1 (hts _ (hw _ (by simp))) (hts _ (hw _ (by simp))) (hts _ (hw _ (by simp))) rfl d (by omega) (by omega) hKn.2.1 rfl fun H1 kC hkC e1 z1 o1 => ?_
  have hD1 : Dy Sc G s H1 locs (K ++ [.inl ci]) (p0 μ K.length) := by
    refine hD.push hl ?_ (fun _ hq => cell_p0 μ hq) z1 o1
    refine ⟨_, hc, (u_born (tyF ci) hts hin hKn hkC e1 hty).to (fun j hj => ?_)⟩
    show _ = vp_V (fls G.1 ci (p0 μ K.length) K.length) j
    rw [vp_V, List.getD_eq_getElem?_getD, fls_get (by rw [hN]; exact hj), hdf j hj G.1 K.length]
    exact fv_p0 _ _ _ _ _ _
  have ha : H.size = G.1 K.length := by rw [hD.2.2.2.2.2.2.1 _ hl, hD.2.2.2.1]
  show W p l e R s m args below meth c H1 locs (cells + 1) (slots + N) Qf (F0 m (pc + 3) ls (.ref H.size :: st.map (cv G.1)))
  rw [ha]
  exact h p l e R s m args below meth c H1 locs _ _ Qf G ls hC hD1 ⟨by show cells + 1 + (n.1 - 1) ≤ _; omega, by show slots + N + (n.2 - nF ci) ≤ _; omega⟩ hl' hr
theorem arrV_ext {cA : ClassId} {N : Nat} {f g : Nat → Value} (h : ∀ j, f j = g j) : arrV cA N f = arrV cA N g := by
  rw [show f = g from funext h]
theorem aw_newarr {atype : ArrayType} {t N : Nat} {x : Int32} (hw : Cond.arrayClass (newarray.typeOf atype) ∈ ws0) (ht : ∀ dA, (tyl dA)[t]? = some (dA t, newarray.typeOf atype)) (hra : ∀ U cA, va_RA U cA (newarray.typeOf atype) → U.vm.findClass ("[" ++ (newarray.typeOf atype).toString) = some cA) (hdv : ∀ (G : GT) cA p j, defaultValue (newarray.typeOf atype) = (match arrC G.1 t (p0 (fun _ _ => 0, fun _ _ => 0, fun _ _ => none) p) p with | .inl f => Value.int (f j) | .inr (.inl f) => .long (f j) | _ => .null) ∧ ∀ μ, vp_cell cA (N, arrC G.1 t (p0 μ p) p) = arrV cA N (fun _ => defaultValue (newarray.typeOf atype)))
    (hx : x = nI N) (hN : N < 1000) (hl : K.length < 400) (hn1 : 1 ≤ n.1 ∧ N ≤ n.2) (hby : N * componentBytes (newarray.typeOf atype) ≤ 536870912) (d : decode M.2.1 pc = .ok (.newarray atype, 2)) (h : AW Sc M (pc + 2) lv (.ref K.length :: st) (K ++ [.inr (t, N)]) (p0 μ K.length) (n.1 - 1, n.2 - N) Q) : AW Sc M pc lv (.int x :: st) K μ n Q := by
  intro p l e R s m args below meth c H locs cells slots Qf G ls hC hD hn hl' hr
  have hts := hC.2.2.2.2.1
  subst hx
  refine va_newaK hC.1 hC.2.1 (hts _ hw) rfl d rfl (nI_pos (by omega)) (nI_clamp (by omega)) hby (by omega) (by omega) rfl fun H1 cA e1 z1 o1 hAr hNm => ?_
  have hcA : cA = G.2.1 t := by
    have h9 := hra s _ (hD.1.2 t _ (ht _)).2
    rw [hNm] at h9
    exact Option.some.inj h9
  have hD1 : Dy Sc G s H1 locs (K ++ [.inr (t, N)]) (p0 μ K.length) := by
    refine hD.push hl ?_ (fun _ hq => cell_p0 μ hq) z1 o1
    show H1[H.size]? = some (vp_cell (G.2.1 t) (N, arrC G.1 t (p0 μ K.length) K.length))
    rw [(hdv G (G.2.1 t) K.length 0).2 μ, ← hcA]
    exact e1
  have ha : H.size = G.1 K.length := by rw [hD.2.2.2.2.2.2.1 _ hl, hD.2.2.2.1]
  show W p l e R s m args below meth c H1 locs (cells + 1) (slots + N) Qf (F0 m (pc + 2) ls (.ref H.size :: st.map (cv G.1)))
  rw [ha]
  exact h p l e R s m args below meth c H1 locs _ _ Qf G ls hC hD1 ⟨by show cells + 1 + (n.1 - 1) ≤ _; omega, by show slots + N + (n.2 - N) ≤ _; omega⟩ hl' hr
theorem aw_newI {N : Nat} {x : Int32} (hw : Cond.arrayClass .int ∈ ws0) (hx : x = nI N) (hN : N < 1000) (hl : K.length < 400) (hn1 : 1 ≤ n.1 ∧ N ≤ n.2) (d : decode M.2.1 pc = .ok (.newarray .int, 2)) (h : AW Sc M (pc + 2) lv (.ref K.length :: st) (K ++ [.inr (0, N)]) (p0 μ K.length) (n.1 - 1, n.2 - N) Q) : AW Sc M pc lv (.int x :: st) K μ n Q :=
  aw_newarr (atype := .int) (t := 0) hw (fun _ => rfl) (fun _ _ h => h) (fun G cA p j => ⟨by simp [arrC, p0, va_up]; rfl, fun μ => by simp [vp_cell, arrC, p0, va_up]; rfl⟩) hx hN hl hn1 (by show N * 4 ≤ _; omega) d h
theorem aw_newJ {N : Nat} {x : Int32} (hw : Cond.arrayClass .long ∈ ws0) (hx : x = nI N) (hN : N < 1000) (hl : K.length < 400) (hn1 : 1 ≤ n.1 ∧ N ≤ n.2) (d : decode M.2.1 pc = .ok (.newarray .long, 2)) (h : AW Sc M (pc + 2) lv (.ref K.length :: st) (K ++ [.inr (1, N)]) (p0 μ K.length) (n.1 - 1, n.2 - N) Q) : AW Sc M pc lv (.int x :: st) K μ n Q :=
  aw_newarr (atype := .long) (t := 1) hw (fun _ => rfl) (fun _ _ h => h) (fun G cA p j => ⟨by simp [arrC, p0, va_up]; rfl, fun μ => by simp [vp_cell, arrC, p0, va_up]; rfl⟩) hx hN hl hn1 (by show N * 8 ≤ _; omega) d h
theorem aw_newC {N : Nat} {x : Int32} (hw : Cond.arrayClass .char ∈ ws0) (hx : x = nI N) (hN : N < 1000) (hl : K.length < 400) (hn1 : 1 ≤ n.1 ∧ N ≤ n.2) (d : decode M.2.1 pc = .ok (.newarray .char, 2)) (h : AW Sc M (pc + 2) lv (.ref K.length :: st) (K ++ [.inr (2, N)]) (p0 μ K.length) (n.1 - 1, n.2 - N) Q) : AW Sc M pc lv (.int x :: st) K μ n Q :=
  aw_newarr (atype := .char) (t := 2) hw (fun _ => rfl) (fun _ _ h => h) (fun G cA p j => ⟨by simp [arrC, p0, va_up]; rfl, fun μ => by simp [vp_cell, arrC, p0, va_up]; rfl⟩) hx hN hl hn1 (by show N * 2 ≤ _; omega) d h
theorem aw_newQ {N t : Nat} {x : Int32} {C : String} (hw : Cond.classLink M.1.cls idx C ∈ ws0) (hC0 : C ∈ overL) (ht : ∀ dA, (tyl dA)[t + 3]? = some (dA (t + 3), .object C)) (hx : x = nI N) (hN : N < 1000) (hl : K.length < 400) (hn1 : 1 ≤ n.1 ∧ N ≤ n.2) (d : decode M.2.1 pc = .ok (.anewarray idx, 3)) (h : AW Sc M (pc + 3) lv (.ref K.length :: st) (K ++ [.inr (t + 3, N)]) (p0 μ K.length) (n.1 - 1, n.2 - N) Q) : AW Sc M pc lv (.int x :: st) K μ n Q := by
  intro p l e R s m args below meth c H locs cells slots Qf G ls hC hD hn hl' hr
  have hts := hC.2.2.2.2.1
  subst hx
  have hcl : (nI N).toNatClampNeg = N := nI_clamp (by omega)
  refine W.anew hC.1 hC.2.1 hC.2.2.2.1 (hts _ hw) (va_AO.use (hD.2.2.2.2.2.2.2.2.2.2.2.2.2.2 _ hC0)) rfl d rfl (nI_pos (by omega)) (by rw [hcl]; omega) (by omega) (by rw [hcl]; omega) fun cA kA comp f1 f2 f3 f4 => ?_
  rw [hcl]
  generalize hH1 : H.push ({ cls := cA, slots := Array.replicate N .null, vm := .none } : Cell) = H1
  have z1 : H1.size = H.size + 1 := by rw [← hH1, Array.size_push]
  have e1 : H1[H.size]? = some (arrV cA N (fun _ => .null)) := by rw [← hH1, Array.getElem?_push_size, ← arrV_new]
  have o1 : ∀ q : Nat, q < H.size → H1[q]? = H[q]? := fun q hq => by rw [← hH1, Array.getElem?_push, if_neg (Nat.ne_of_lt hq)]
  have hcA : cA = G.2.1 (t + 3) := by
    obtain ⟨kA2, comp2, -, -, -, h9⟩ := (hD.1.2 (t + 3) _ (ht _)).2
    rw [f1] at h9
    exact Option.some.inj h9
  have hD1 : Dy Sc G s H1 locs (K ++ [.inr (t + 3, N)]) (p0 μ K.length) := by
    refine hD.push hl ?_ (fun _ hq => cell_p0 μ hq) z1 o1
    show H1[H.size]? = some (arrV (G.2.1 (t + 3)) N (fun j => va_rf (((p0 μ K.length).2.2 K.length j).map G.1)))
    rw [← hcA, e1]
    exact congrArg some (arrV_ext (fun j => by simp [p0, va_up, va_rf]))
  have ha : H.size = G.1 K.length := by rw [hD.2.2.2.2.2.2.1 _ hl, hD.2.2.2.1]
  show W p l e R s m args below meth c H1 locs (cells + 1) (slots + N) Qf (F0 m (pc + 3) ls (.ref H.size :: st.map (cv G.1)))
  rw [ha]
  exact h p l e R s m args below meth c H1 locs _ _ Qf G ls hC hD1 ⟨by show cells + 1 + (n.1 - 1) ≤ _; omega, by show slots + N + (n.2 - N) ≤ _; omega⟩ hl' hr
end AHeap
end
section
/-! THE ABSTRACT MACHINE, 6: Object's constructor, arraycopy, String constants, statics, the script -/
section ANat
variable {Sc : SCR} {M : MD} {pc idx ci k q : Nat} {lv : List (Nat × Value)} {st : List Value} {K : List kd} {μ : Mem} {n : Nat × Nat} {Q : PQ}
theorem aw_objInit (hw : ∀ w ∈ ([.methodLink M.1.cls idx Lib.objectInit, .instanceMethod Lib.objectInit, .code Lib.objectInit ⟨#[0xb1]⟩ 1 none] : List Cond), w ∈ ws0) (h8 : (st.map fun v => v.category).sum ≤ 8) (hf : 1 ≤ M.2.2.2.2.1 ∧ 20 ≤ M.2.2.2.2.2) (d : decode M.2.1 pc = .ok (.invokespecial idx, 3)) (h : AW Sc M (pc + 3) lv st K μ n Q) : AW Sc M pc lv (.ref q :: st) K μ n Q := by
  intro p l e R s m args below meth c H locs cells slots Qf G ls hC hD hn hl hr
  obtain ⟨hx, hb, hml, hown, hts, -, -, -, hR1, hR2⟩ := id hC
  have h9 := cat_cv (ad := G.1) h8
  refine W.objInit hx hb hown (hts _ (hw _ (by simp))) (hts _ (hw _ (by simp))) (hts _ (hw _ (by simp))) rfl (by rw [hml]; exact hl.1) rfl d (Nat.le_trans hf.1 hR1) (by show 2 * 0 + _ + 12 ≤ _; omega) ?_
  exact h p l e R s m args below meth c H locs cells slots Qf G ls hC hD hn hl hr
theorem aw_copyJ {q0 : Nat} {sp dp x : Int32} {N0 N1 : Nat} (hw : ∀ w ∈ ([.methodLink M.1.cls idx arraycopyName, .native arraycopyName, .static arraycopyName, .initialized "java/lang/System"] : List Cond), w ∈ ws0) (hK0 : K[q0]? = some (.inr (1, N0))) (hK1 : K[q]? = some (.inr (1, N1)))
    (h1 : ¬ sp < 0) (h2 : ¬ dp < 0) (h3 : ¬ x < 0) (h4 : sp.toNatClampNeg + x.toNatClampNeg ≤ N0) (h5 : dp.toNatClampNeg + x.toNatClampNeg ≤ N1) (h8 : (st.map fun v => v.category).sum ≤ 8) (hf : 1 ≤ M.2.2.2.2.1 ∧ 60 ≤ M.2.2.2.2.2) (d : decode M.2.1 pc = .ok (.invokestatic idx, 3))
    (h : AW Sc M (pc + 3) lv st K (pRow μ q (va_cpy (μ.2.1 q0) (μ.2.1 q) sp.toNatClampNeg dp.toNatClampNeg x.toNatClampNeg)) n Q) : AW Sc M pc lv (.int x :: .int dp :: .ref q :: .int sp :: .ref q0 :: st) K μ n Q := by
  intro p l e R s m args below meth c H locs cells slots Qf G ls hC hD hn hl hr
  obtain ⟨hx, hb, hml, hown, hts, -, -, -, hR1, hR2⟩ := id hC
  have h9 := cat_cv (ad := G.1) h8
  have nn : ∀ z : Int32, ¬ z < 0 → z.toInt = (z.toNatClampNeg : Int) := by
    intro z hz
    have hz0 : (0 : Int) ≤ z.toInt := by
      have := Int32.not_lt.mp hz
      simpa using Int32.le_iff_toInt_le.mp this
    show z.toInt = ((z.toInt.toNat : Nat) : Int)
    omega
  intro T hT X
  have hc0 : H[G.1 q0]? = some (arrV (G.2.1 1) N0 (fun j => .long (μ.2.1 q0 j))) := hD.2.1 q0 _ (wl_get hK0)
  have hc1 : H[G.1 q]? = some (arrV (G.2.1 1) N1 (fun j => .long (μ.2.1 q j))) := hD.2.1 q _ (wl_get hK1)
  obtain ⟨-, k0, hk0, cm0, hkk0⟩ := (hD.1.2 1 _ rfl).1 N0 (fun j => .long (μ.2.1 q0 j))
  obtain ⟨-, k1, hk1, cm1, hkk1⟩ := (hD.1.2 1 _ rfl).1 N1 (fun j => .long (μ.2.1 q j))
  obtain ⟨vm', X', step⟩ := X.arraycopy (index := idx) hx hown (hts _ (hw _ (by simp))) (hts _ (hw _ (by simp))) (hts _ (hw _ (by simp))) (hts _ (hw _ (by simp))) (src := G.1 q0) (dst := G.1 q) (cs := arrV (G.2.1 1) N0 (fun j => .long (μ.2.1 q0 j))) (cd := arrV (G.2.1 1) N1 (fun j => .long (μ.2.1 q j))) (srcPos := sp) (destPos := dp) (n := x) (by rw [hT]; exact hc0) (by rw [hT]; exact hc1)
    (fun _ h => by cases h) (fun _ h => by cases h) (fun h => by cases h) (fun h => by cases h) hk0 hk1 hkk0 hkk1 rfl h1 h2 h3
    (by rw [nn sp h1, nn x h3, arrV_size]; omega) (by rw [nn dp h2, nn x h3, arrV_size]; omega)
    (fun vm₁ _ i hi => by
      have e : (arrV (G.2.1 1) N0 (fun j => Value.long (μ.2.1 q0 j))).slots.getD (sp.toNatClampNeg + i) .null = .long (μ.2.1 q0 (sp.toNatClampNeg + i)) := by
        rw [Array.getD_eq_getD_getElem?, arrV_read _ _ (by omega)]
        rfl
      refine ⟨?_, ?_⟩
      · rw [e]
        rfl
      · rw [e]
        exact trivial)
    (g := F0 m pc ls (.int x :: .int dp :: .ref (G.1 q) :: .int sp :: .ref (G.1 q0) :: st.map (cv G.1))) rfl (by rw [hml]; exact hl.1) (rest := st.map (cv G.1)) rfl (by rw [hb]; exact d) (Nat.le_trans hf.1 hR1) (by
      have e9 : nativeFrameWords "java/lang/System" "arraycopy" 5 + 11 ≤ 52 := by decide +kernel
      show 2 * 0 + _ + _ ≤ _
      omega)
  have e1 : copied (arrV (G.2.1 1) N0 (fun j => Value.long (μ.2.1 q0 j))) (arrV (G.2.1 1) N1 (fun j => Value.long (μ.2.1 q j))) sp dp x = arrV (G.2.1 1) N1 (fun j => Value.long (va_cpy (μ.2.1 q0) (μ.2.1 q) sp.toNatClampNeg dp.toNatClampNeg x.toNatClampNeg j)) := va_copied (fun z => .long z) (G.2.1 1) (G.2.1 1) (μ.2.1 q0) (μ.2.1 q) h4
  rw [e1] at X' step
  have hl1 : G.1 q < H.size := (Array.getElem?_eq_some_iff.mp hc1).1
  generalize hce : arrV (G.2.1 1) N1 (fun j => Value.long (va_cpy (μ.2.1 q0) (μ.2.1 q) sp.toNatClampNeg dp.toNatClampNeg x.toNatClampNeg j)) = cE at X' step
  have hheap : ((T.setVm vm').setCell (G.1 q) cE).heap = H.setIfInBounds (G.1 q) cE := by rw [← hT]; rfl
  have oq : ∀ a : Nat, a ≠ G.1 q → (H.setIfInBounds (G.1 q) cE)[a]? = H[a]? := fun a ha => by simp [Array.getElem?_setIfInBounds, Ne.symm ha]
  have hD1 := hD.put (H1 := H.setIfInBounds (G.1 q) cE) (μ' := pRow μ q (va_cpy (μ.2.1 q0) (μ.2.1 q) sp.toNatClampNeg dp.toNatClampNeg x.toNatClampNeg)) hK1 (by
      show (H.setIfInBounds (G.1 q) cE)[G.1 q]? = some (arrV (G.2.1 1) N1 (fun j => .long ((pRow μ q (va_cpy (μ.2.1 q0) (μ.2.1 q) sp.toNatClampNeg dp.toNatClampNeg x.toNatClampNeg)).2.1 q j)))
      rw [Array.getElem?_setIfInBounds, if_pos rfl, if_pos hl1, ← hce]
      exact congrArg some (arrV_ext (fun j => by simp [pRow, va_up]))) (fun _ hq => cell_pRow μ _ hq) (by simp) oq 0
  obtain ⟨d1, d2, dS, d3⟩ := hD1
  have hb0 : bA G (G.1 q) := hD.D.2 q _ (wl_get hK1)
  have key := fun hDD => h p l e R s m args below meth c _ _ cells slots Qf G ls hC hDD hn hl hr _ hheap X'
  obtain ⟨t, a1, b1⟩ := key ⟨d1, d2, ⟨dS.1, dS.2.1, fun z hz => by
      rcases List.mem_append.mp hz with h | h
      · exact hD.2.2.1.2.2 z h
      · obtain ⟨w, -, hw⟩ := List.mem_map.mp h
        rw [← hw]
        exact hb0⟩, d3⟩
  exact ⟨t, step t a1, b1⟩
theorem aw_strV (i : Nat) (hi : i < 15) (hw : Cond.fieldLink M.1.cls idx "java/lang/String" "value" "[B" ∈ ws0) (d : decode M.2.1 pc = .ok (.getfield idx, 3)) (h : AW Sc M (pc + 3) lv (.ref (450 + i) :: st) K μ n Q) : AW Sc M pc lv (.ref (400 + i) :: st) K μ n Q :=
  fun p l e R s m args below meth c H locs cells slots Qf G ls hC hD hn hl hr => vk_getf hC.1 hC.2.1 ((hD.2.2.2.2.2.2.2.2.1).1 i hi).2.2.1 hD.2.2.1 hC.2.2.2.1 (hC.2.2.2.2.1 _ hw) (fun _ h => h) d (h p l e R s m args below meth c H locs cells slots Qf G ls hC hD hn hl hr)
theorem aw_strC (i : Nat) (hi : i < 15) (hw : Cond.fieldLink M.1.cls idx "java/lang/String" "coder" "B" ∈ ws0) (d : decode M.2.1 pc = .ok (.getfield idx, 3)) (h : AW Sc M (pc + 3) lv (.int 0 :: st) K μ n Q) : AW Sc M pc lv (.ref (400 + i) :: st) K μ n Q :=
  fun p l e R s m args below meth c H locs cells slots Qf G ls hC hD hn hl hr => vk_getf hC.1 hC.2.1 ((hD.2.2.2.2.2.2.2.2.1).1 i hi).2.1 hD.2.2.1 hC.2.2.2.1 (hC.2.2.2.2.1 _ hw) (fun _ h => h) d (h p l e R s m args below meth c H locs cells slots Qf G ls hC hD hn hl hr)
theorem aw_strL (i : Nat) (hi : i < 15) (d : decode M.2.1 pc = .ok (.arraylength, 1)) (h : AW Sc M (pc + 1) lv (.int (nI (sLen.getD i 0)) :: st) K μ n Q) : AW Sc M pc lv (.ref (450 + i) :: st) K μ n Q :=
  fun p l e R s m args below meth c H locs cells slots Qf G ls hC hD hn hl hr => va_tlen hC.1 hC.2.1 ((hD.2.2.2.2.2.2.2.2.1).1 i hi).2.2.2 hD.2.2.1 rfl d (h p l e R s m args below meth c H locs cells slots Qf G ls hC hD hn hl hr)
theorem aw_strB (i : Nat) (hi : i < 15) {j : Int32} (hj : vp_in j (sLen.getD i 0)) (d : decode M.2.1 pc = .ok (.baload, 1)) (h : AW Sc M (pc + 1) lv (.int ((sByt.getD i []).getD j.toNatClampNeg 0) :: st) K μ n Q) : AW Sc M pc lv (.int j :: .ref (450 + i) :: st) K μ n Q :=
  fun p l e R s m args below meth c H locs cells slots Qf G ls hC hD hn hl hr => va_tb hC.1 hC.2.1 ((hD.2.2.2.2.2.2.2.2.1).1 i hi).2.2.2 hD.2.2.1 hj rfl d (h p l e R s m args below meth c H locs cells slots Qf G ls hC hD hn hl hr)
theorem aw_compact (hw : Cond.fieldLink M.1.cls idx "java/lang/String" "COMPACT_STRINGS" "Z" ∈ ws0) (d : decode M.2.1 pc = .ok (.getstatic idx, 3)) (h : AW Sc M (pc + 3) lv (.int 1 :: st) K μ n Q) : AW Sc M pc lv st K μ n Q :=
  fun p l e R s m args below meth c H locs cells slots Qf G ls hC hD hn hl hr => va_gets hC.1 hC.2.1 hD.2.2.2.2.2.2.2.2.2.1 hD.2.2.1 hC.2.2.2.1 (hC.2.2.2.2.1 _ hw) (fun _ h => h) d (h p l e R s m args below meth c H locs cells slots Qf G ls hC hD hn hl hr)
theorem aw_former (hw : Cond.fieldLink M.1.cls idx "jdk/internal/util/Preconditions" "SIOOBE_FORMATTER" "Ljava/util/function/BiFunction;" ∈ ws0) (d : decode M.2.1 pc = .ok (.getstatic idx, 3)) (h : ∀ v, AW Sc M (pc + 3) lv (v :: st) K μ n Q) : AW Sc M pc lv st K μ n Q := by
  intro p l e R s m args below meth c H locs cells slots Qf G ls hC hD hn hl hr
  rcases hD.2.2.2.2.2.2.2.2.2.2.1 with h4 | h4
  · exact va_gets hC.1 hC.2.1 h4 hD.2.2.1 hC.2.2.2.1 (hC.2.2.2.2.1 _ hw) (fun _ h => h) d (h .null p l e R s m args below meth c H locs cells slots Qf G ls hC hD hn hl hr)
  · exact va_gets hC.1 hC.2.1 h4 hD.2.2.1 hC.2.2.2.1 (hC.2.2.2.2.1 _ hw) (fun _ h => h) d (h (.ref 499) p l e R s m args below meth c H locs cells slots Qf G ls hC hD hn hl hr)
theorem aw_sld {i : Int32} (hi : vp_in i Sc.1) (d : decode M.2.1 pc = .ok (.iaload, 1)) (h : AW Sc M (pc + 1) lv (.int (Sc.2 i.toNatClampNeg) :: st) K μ n Q) : AW Sc M pc lv (.int i :: .ref 999 :: st) K μ n Q := by
  intro p l e R s m args below meth c H locs cells slots Qf G ls hC hD hn hl hr
  have hX := hD.2.2.2.2.2.2.2.2.2.2.2.1
  exact va_sld hC.1 hC.2.1 hX.1 hX.2.2 (Nat.not_le.mpr hX.2.1) hD.2.2.1 hi d (h p l e R s m args below meth c H locs cells slots Qf G ls hC hD hn hl hr)
theorem aw_slen (d : decode M.2.1 pc = .ok (.arraylength, 1)) (h : AW Sc M (pc + 1) lv (.int (nI Sc.1) :: st) K μ n Q) : AW Sc M pc lv (.ref 999 :: st) K μ n Q := by
  intro p l e R s m args below meth c H locs cells slots Qf G ls hC hD hn hl hr
  have hX := hD.2.2.2.2.2.2.2.2.2.2.2.1
  exact va_slen hC.1 hC.2.1 hX.1 hX.2.2 (Nat.not_le.mpr hX.2.1) hD.2.2.1 d (h p l e R s m args below meth c H locs cells slots Qf G ls hC hD hn hl hr)
end ANat
end
