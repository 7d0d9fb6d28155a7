section
-- ===== PART A: goes FIRST, ahead of the names: the tables' words, and 'selects' of the private methods out of them =====
/-- a private method of a class that the tables say can be made, by its rows of tables_1 -/
def lw_okq (q : MethodName × Nat) : Prop := (q.1.cls ≠ "java/lang/invoke/MethodHandle" ∧ q.1.cls ≠ "java/lang/invoke/VarHandle") ∧ Cond.instantiable q.1.cls q.2 ∈ tables_1 ∧ Cond.privateMethod q.1 ∈ tables_1 ∧ Cond.instanceMethod q.1 ∈ tables_1
theorem lw_p0 : lw_okq (⟨"EndlessTug", "finding", "(I)I"⟩, 8) := ⟨⟨by decide +kernel, by decide +kernel⟩, List.mem_of_getElem? (i := 23) (by decide +kernel), List.mem_of_getElem? (i := 266) (by decide +kernel), List.mem_of_getElem? (i := 267) (by decide +kernel)⟩
theorem lw_p1 : lw_okq (⟨"EndlessTug$Green", "leadOfChapel", "()I"⟩, 7) := ⟨⟨by decide +kernel, by decide +kernel⟩, List.mem_of_getElem? (i := 31) (by decide +kernel), List.mem_of_getElem? (i := 480) (by decide +kernel), List.mem_of_getElem? (i := 481) (by decide +kernel)⟩
theorem lw_p2 : lw_okq (⟨"EndlessTug$Green", "moveKnot", "(I)V"⟩, 7) := ⟨⟨by decide +kernel, by decide +kernel⟩, List.mem_of_getElem? (i := 31) (by decide +kernel), List.mem_of_getElem? (i := 484) (by decide +kernel), List.mem_of_getElem? (i := 485) (by decide +kernel)⟩
theorem lw_p3 : lw_okq (⟨"EndlessTug$Green", "callOut", "(I)V"⟩, 7) := ⟨⟨by decide +kernel, by decide +kernel⟩, List.mem_of_getElem? (i := 31) (by decide +kernel), List.mem_of_getElem? (i := 500) (by decide +kernel), List.mem_of_getElem? (i := 501) (by decide +kernel)⟩
theorem lw_p4 : lw_okq (⟨"EndlessTug", "bestOrNone", "()I"⟩, 8) := ⟨⟨by decide +kernel, by decide +kernel⟩, List.mem_of_getElem? (i := 23) (by decide +kernel), List.mem_of_getElem? (i := 547) (by decide +kernel), List.mem_of_getElem? (i := 548) (by decide +kernel)⟩
theorem lw_p5 : lw_okq (⟨"EndlessTug$Tape", "lookAtNext", "()V"⟩, 6) := ⟨⟨by decide +kernel, by decide +kernel⟩, List.mem_of_getElem? (i := 183) (by decide +kernel), List.mem_of_getElem? (i := 612) (by decide +kernel), List.mem_of_getElem? (i := 613) (by decide +kernel)⟩
theorem lw_p6 : lw_okq (⟨"EndlessTug$Tape", "takeItem", "(LEndlessTug$Green;)Z"⟩, 6) := ⟨⟨by decide +kernel, by decide +kernel⟩, List.mem_of_getElem? (i := 183) (by decide +kernel), List.mem_of_getElem? (i := 619) (by decide +kernel), List.mem_of_getElem? (i := 620) (by decide +kernel)⟩
theorem lw_p7 : lw_okq (⟨"EndlessTug$Tape", "kindNamed", "()I"⟩, 6) := ⟨⟨by decide +kernel, by decide +kernel⟩, List.mem_of_getElem? (i := 183) (by decide +kernel), List.mem_of_getElem? (i := 623) (by decide +kernel), List.mem_of_getElem? (i := 624) (by decide +kernel)⟩
theorem lw_p8 : lw_okq (⟨"EndlessTug$Tape", "isWord", "(Ljava/lang/String;)Z"⟩, 6) := ⟨⟨by decide +kernel, by decide +kernel⟩, List.mem_of_getElem? (i := 183) (by decide +kernel), List.mem_of_getElem? (i := 628) (by decide +kernel), List.mem_of_getElem? (i := 629) (by decide +kernel)⟩
theorem lw_p9 : lw_okq (⟨"EndlessTug$Tape", "takePerson", "(LEndlessTug$Green;I)Z"⟩, 6) := ⟨⟨by decide +kernel, by decide +kernel⟩, List.mem_of_getElem? (i := 183) (by decide +kernel), List.mem_of_getElem? (i := 685) (by decide +kernel), List.mem_of_getElem? (i := 686) (by decide +kernel)⟩
theorem lw_p10 : lw_okq (⟨"EndlessTug$Tape", "takeSide", "()I"⟩, 6) := ⟨⟨by decide +kernel, by decide +kernel⟩, List.mem_of_getElem? (i := 183) (by decide +kernel), List.mem_of_getElem? (i := 690) (by decide +kernel), List.mem_of_getElem? (i := 691) (by decide +kernel)⟩
theorem lw_p11 : lw_okq (⟨"EndlessTug$Tape", "takeWord", "(Ljava/lang/String;)Z"⟩, 6) := ⟨⟨by decide +kernel, by decide +kernel⟩, List.mem_of_getElem? (i := 183) (by decide +kernel), List.mem_of_getElem? (i := 698) (by decide +kernel), List.mem_of_getElem? (i := 699) (by decide +kernel)⟩
theorem lw_p12 : lw_okq (⟨"EndlessTug$Tape", "takeNumber", "(II)Z"⟩, 6) := ⟨⟨by decide +kernel, by decide +kernel⟩, List.mem_of_getElem? (i := 183) (by decide +kernel), List.mem_of_getElem? (i := 702) (by decide +kernel), List.mem_of_getElem? (i := 703) (by decide +kernel)⟩
theorem lw_p13 : lw_okq (⟨"EndlessTug$Tape", "takeWeek", "(LEndlessTug$Green;I)Z"⟩, 6) := ⟨⟨by decide +kernel, by decide +kernel⟩, List.mem_of_getElem? (i := 183) (by decide +kernel), List.mem_of_getElem? (i := 709) (by decide +kernel), List.mem_of_getElem? (i := 710) (by decide +kernel)⟩
theorem lw_p14 : lw_okq (⟨"EndlessTug$Tape", "takeKnot", "(LEndlessTug$Green;)Z"⟩, 6) := ⟨⟨by decide +kernel, by decide +kernel⟩, List.mem_of_getElem? (i := 183) (by decide +kernel), List.mem_of_getElem? (i := 715) (by decide +kernel), List.mem_of_getElem? (i := 716) (by decide +kernel)⟩
theorem lw_p15 : lw_okq (⟨"EndlessTug$Tape", "takeSlack", "(LEndlessTug$Green;)Z"⟩, 6) := ⟨⟨by decide +kernel, by decide +kernel⟩, List.mem_of_getElem? (i := 183) (by decide +kernel), List.mem_of_getElem? (i := 720) (by decide +kernel), List.mem_of_getElem? (i := 721) (by decide +kernel)⟩
def lw_privs_1 : List (MethodName × Nat) := [(⟨"EndlessTug", "finding", "(I)I"⟩, 8), (⟨"EndlessTug$Green", "leadOfChapel", "()I"⟩, 7), (⟨"EndlessTug$Green", "moveKnot", "(I)V"⟩, 7), (⟨"EndlessTug$Green", "callOut", "(I)V"⟩, 7), (⟨"EndlessTug", "bestOrNone", "()I"⟩, 8), (⟨"EndlessTug$Tape", "lookAtNext", "()V"⟩, 6), (⟨"EndlessTug$Tape", "takeItem", "(LEndlessTug$Green;)Z"⟩, 6), (⟨"EndlessTug$Tape", "kindNamed", "()I"⟩, 6), (⟨"EndlessTug$Tape", "isWord", "(Ljava/lang/String;)Z"⟩, 6), (⟨"EndlessTug$Tape", "takePerson", "(LEndlessTug$Green;I)Z"⟩, 6), (⟨"EndlessTug$Tape", "takeSide", "()I"⟩, 6), (⟨"EndlessTug$Tape", "takeWord", "(Ljava/lang/String;)Z"⟩, 6), (⟨"EndlessTug$Tape", "takeNumber", "(II)Z"⟩, 6), (⟨"EndlessTug$Tape", "takeWeek", "(LEndlessTug$Green;I)Z"⟩, 6), (⟨"EndlessTug$Tape", "takeKnot", "(LEndlessTug$Green;)Z"⟩, 6), (⟨"EndlessTug$Tape", "takeSlack", "(LEndlessTug$Green;)Z"⟩, 6)]
theorem lw_r1 : ∀ q ∈ lw_privs_1, lw_okq q := List.forall_mem_cons.mpr ⟨lw_p0, List.forall_mem_cons.mpr ⟨lw_p1, List.forall_mem_cons.mpr ⟨lw_p2, List.forall_mem_cons.mpr ⟨lw_p3, List.forall_mem_cons.mpr ⟨lw_p4, List.forall_mem_cons.mpr ⟨lw_p5, List.forall_mem_cons.mpr ⟨lw_p6, List.forall_mem_cons.mpr ⟨lw_p7, List.forall_mem_cons.mpr ⟨lw_p8, List.forall_mem_cons.mpr ⟨lw_p9, List.forall_mem_cons.mpr ⟨lw_p10, List.forall_mem_cons.mpr ⟨lw_p11, List.forall_mem_cons.mpr ⟨lw_p12, List.forall_mem_cons.mpr ⟨lw_p13, List.forall_mem_cons.mpr ⟨lw_p14, List.forall_mem_cons.mpr ⟨lw_p15, fun _ h => absurd h List.not_mem_nil⟩⟩⟩⟩⟩⟩⟩⟩⟩⟩⟩⟩⟩⟩⟩⟩
theorem lw_p16 : lw_okq (⟨"EndlessTugModel", "becomes", "(II)I"⟩, 19) := ⟨⟨by decide +kernel, by decide +kernel⟩, List.mem_of_getElem? (i := 809) (by decide +kernel), List.mem_of_getElem? (i := 881) (by decide +kernel), List.mem_of_getElem? (i := 882) (by decide +kernel)⟩
theorem lw_p17 : lw_okq (⟨"EndlessTugModel", "no", "(I)I"⟩, 19) := ⟨⟨by decide +kernel, by decide +kernel⟩, List.mem_of_getElem? (i := 809) (by decide +kernel), List.mem_of_getElem? (i := 885) (by decide +kernel), List.mem_of_getElem? (i := 886) (by decide +kernel)⟩
theorem lw_p18 : lw_okq (⟨"EndlessTugModel", "weekNow", "()I"⟩, 19) := ⟨⟨by decide +kernel, by decide +kernel⟩, List.mem_of_getElem? (i := 809) (by decide +kernel), List.mem_of_getElem? (i := 905) (by decide +kernel), List.mem_of_getElem? (i := 906) (by decide +kernel)⟩
theorem lw_p19 : lw_okq (⟨"EndlessTugModel", "isHarvest", "()Z"⟩, 19) := ⟨⟨by decide +kernel, by decide +kernel⟩, List.mem_of_getElem? (i := 809) (by decide +kernel), List.mem_of_getElem? (i := 909) (by decide +kernel), List.mem_of_getElem? (i := 910) (by decide +kernel)⟩
theorem lw_p20 : lw_okq (⟨"EndlessTugModel", "isSunday", "()Z"⟩, 19) := ⟨⟨by decide +kernel, by decide +kernel⟩, List.mem_of_getElem? (i := 809) (by decide +kernel), List.mem_of_getElem? (i := 913) (by decide +kernel), List.mem_of_getElem? (i := 914) (by decide +kernel)⟩
theorem lw_p21 : lw_okq (⟨"EndlessTugModel", "aheadNow", "()I"⟩, 19) := ⟨⟨by decide +kernel, by decide +kernel⟩, List.mem_of_getElem? (i := 809) (by decide +kernel), List.mem_of_getElem? (i := 917) (by decide +kernel), List.mem_of_getElem? (i := 918) (by decide +kernel)⟩
theorem lw_p22 : lw_okq (⟨"EndlessTugModel", "onRope", "()I"⟩, 19) := ⟨⟨by decide +kernel, by decide +kernel⟩, List.mem_of_getElem? (i := 809) (by decide +kernel), List.mem_of_getElem? (i := 921) (by decide +kernel), List.mem_of_getElem? (i := 922) (by decide +kernel)⟩
theorem lw_p23 : lw_okq (⟨"EndlessTugModel", "get", "(II)I"⟩, 19) := ⟨⟨by decide +kernel, by decide +kernel⟩, List.mem_of_getElem? (i := 809) (by decide +kernel), List.mem_of_getElem? (i := 925) (by decide +kernel), List.mem_of_getElem? (i := 926) (by decide +kernel)⟩
theorem lw_p24 : lw_okq (⟨"EndlessTugModel", "sidePulls", "(I)I"⟩, 19) := ⟨⟨by decide +kernel, by decide +kernel⟩, List.mem_of_getElem? (i := 809) (by decide +kernel), List.mem_of_getElem? (i := 929) (by decide +kernel), List.mem_of_getElem? (i := 930) (by decide +kernel)⟩
theorem lw_p25 : lw_okq (⟨"EndlessTugModel", "pullsOf", "(I)I"⟩, 19) := ⟨⟨by decide +kernel, by decide +kernel⟩, List.mem_of_getElem? (i := 809) (by decide +kernel), List.mem_of_getElem? (i := 933) (by decide +kernel), List.mem_of_getElem? (i := 934) (by decide +kernel)⟩
theorem lw_p26 : lw_okq (⟨"EndlessTugModel", "addsPerson", "(II)V"⟩, 19) := ⟨⟨by decide +kernel, by decide +kernel⟩, List.mem_of_getElem? (i := 809) (by decide +kernel), List.mem_of_getElem? (i := 944) (by decide +kernel), List.mem_of_getElem? (i := 945) (by decide +kernel)⟩
theorem lw_p27 : lw_okq (⟨"EndlessTugModel", "puts", "(III)V"⟩, 19) := ⟨⟨by decide +kernel, by decide +kernel⟩, List.mem_of_getElem? (i := 809) (by decide +kernel), List.mem_of_getElem? (i := 948) (by decide +kernel), List.mem_of_getElem? (i := 949) (by decide +kernel)⟩
theorem lw_p28 : lw_okq (⟨"EndlessTugModel", "isPerson", "(I)Z"⟩, 19) := ⟨⟨by decide +kernel, by decide +kernel⟩, List.mem_of_getElem? (i := 809) (by decide +kernel), List.mem_of_getElem? (i := 956) (by decide +kernel), List.mem_of_getElem? (i := 957) (by decide +kernel)⟩
theorem lw_p29 : lw_okq (⟨"EndlessTugModel", "tiresOf", "(I)I"⟩, 19) := ⟨⟨by decide +kernel, by decide +kernel⟩, List.mem_of_getElem? (i := 809) (by decide +kernel), List.mem_of_getElem? (i := 960) (by decide +kernel), List.mem_of_getElem? (i := 961) (by decide +kernel)⟩
theorem lw_p30 : lw_okq (⟨"EndlessTugModel", "letsGo", "(I)Z"⟩, 19) := ⟨⟨by decide +kernel, by decide +kernel⟩, List.mem_of_getElem? (i := 809) (by decide +kernel), List.mem_of_getElem? (i := 964) (by decide +kernel), List.mem_of_getElem? (i := 965) (by decide +kernel)⟩
theorem lw_p31 : lw_okq (⟨"EndlessTugModel", "mayRelieve", "(II)Z"⟩, 19) := ⟨⟨by decide +kernel, by decide +kernel⟩, List.mem_of_getElem? (i := 809) (by decide +kernel), List.mem_of_getElem? (i := 984) (by decide +kernel), List.mem_of_getElem? (i := 985) (by decide +kernel)⟩
def lw_privs_2 : List (MethodName × Nat) := [(⟨"EndlessTugModel", "becomes", "(II)I"⟩, 19), (⟨"EndlessTugModel", "no", "(I)I"⟩, 19), (⟨"EndlessTugModel", "weekNow", "()I"⟩, 19), (⟨"EndlessTugModel", "isHarvest", "()Z"⟩, 19), (⟨"EndlessTugModel", "isSunday", "()Z"⟩, 19), (⟨"EndlessTugModel", "aheadNow", "()I"⟩, 19), (⟨"EndlessTugModel", "onRope", "()I"⟩, 19), (⟨"EndlessTugModel", "get", "(II)I"⟩, 19), (⟨"EndlessTugModel", "sidePulls", "(I)I"⟩, 19), (⟨"EndlessTugModel", "pullsOf", "(I)I"⟩, 19), (⟨"EndlessTugModel", "addsPerson", "(II)V"⟩, 19), (⟨"EndlessTugModel", "puts", "(III)V"⟩, 19), (⟨"EndlessTugModel", "isPerson", "(I)Z"⟩, 19), (⟨"EndlessTugModel", "tiresOf", "(I)I"⟩, 19), (⟨"EndlessTugModel", "letsGo", "(I)Z"⟩, 19), (⟨"EndlessTugModel", "mayRelieve", "(II)Z"⟩, 19)]
theorem lw_r2 : ∀ q ∈ lw_privs_2, lw_okq q := List.forall_mem_cons.mpr ⟨lw_p16, List.forall_mem_cons.mpr ⟨lw_p17, List.forall_mem_cons.mpr ⟨lw_p18, List.forall_mem_cons.mpr ⟨lw_p19, List.forall_mem_cons.mpr ⟨lw_p20, List.forall_mem_cons.mpr ⟨lw_p21, List.forall_mem_cons.mpr ⟨lw_p22, List.forall_mem_cons.mpr ⟨lw_p23, List.forall_mem_cons.mpr ⟨lw_p24, List.forall_mem_cons.mpr ⟨lw_p25, List.forall_mem_cons.mpr ⟨lw_p26, List.forall_mem_cons.mpr ⟨lw_p27, List.forall_mem_cons.mpr ⟨lw_p28, List.forall_mem_cons.mpr ⟨lw_p29, List.forall_mem_cons.mpr ⟨lw_p30, List.forall_mem_cons.mpr ⟨lw_p31, fun _ h => absurd h List.not_mem_nil⟩⟩⟩⟩⟩⟩⟩⟩⟩⟩⟩⟩⟩⟩⟩⟩
theorem lw_p32 : lw_okq (⟨"EndlessTugModel", "relieves", "(II)V"⟩, 19) := ⟨⟨by decide +kernel, by decide +kernel⟩, List.mem_of_getElem? (i := 809) (by decide +kernel), List.mem_of_getElem? (i := 988) (by decide +kernel), List.mem_of_getElem? (i := 989) (by decide +kernel)⟩
theorem lw_p33 : lw_okq (⟨"EndlessTugModel", "goes", "(I)V"⟩, 19) := ⟨⟨by decide +kernel, by decide +kernel⟩, List.mem_of_getElem? (i := 809) (by decide +kernel), List.mem_of_getElem? (i := 997) (by decide +kernel), List.mem_of_getElem? (i := 998) (by decide +kernel)⟩
theorem lw_p34 : lw_okq (⟨"EndlessTugModel", "knotGoes", "()V"⟩, 19) := ⟨⟨by decide +kernel, by decide +kernel⟩, List.mem_of_getElem? (i := 809) (by decide +kernel), List.mem_of_getElem? (i := 1001) (by decide +kernel), List.mem_of_getElem? (i := 1002) (by decide +kernel)⟩
theorem lw_p35 : lw_okq (⟨"EndlessTugModel", "livesOn", "(I)V"⟩, 19) := ⟨⟨by decide +kernel, by decide +kernel⟩, List.mem_of_getElem? (i := 809) (by decide +kernel), List.mem_of_getElem? (i := 1008) (by decide +kernel), List.mem_of_getElem? (i := 1009) (by decide +kernel)⟩
theorem lw_p36 : lw_okq (⟨"EndlessTugModel", "someComes", "(I)V"⟩, 19) := ⟨⟨by decide +kernel, by decide +kernel⟩, List.mem_of_getElem? (i := 809) (by decide +kernel), List.mem_of_getElem? (i := 1012) (by decide +kernel), List.mem_of_getElem? (i := 1013) (by decide +kernel)⟩
theorem lw_p37 : lw_okq (⟨"EndlessTugModel", "setsAside", "()V"⟩, 19) := ⟨⟨by decide +kernel, by decide +kernel⟩, List.mem_of_getElem? (i := 809) (by decide +kernel), List.mem_of_getElem? (i := 1020) (by decide +kernel), List.mem_of_getElem? (i := 1021) (by decide +kernel)⟩
theorem lw_p38 : lw_okq (⟨"EndlessTugModel", "laysBack", "()V"⟩, 19) := ⟨⟨by decide +kernel, by decide +kernel⟩, List.mem_of_getElem? (i := 809) (by decide +kernel), List.mem_of_getElem? (i := 1024) (by decide +kernel), List.mem_of_getElem? (i := 1025) (by decide +kernel)⟩
theorem lw_p39 : lw_okq (⟨"EndlessTugModel", "towards", "(I)I"⟩, 19) := ⟨⟨by decide +kernel, by decide +kernel⟩, List.mem_of_getElem? (i := 809) (by decide +kernel), List.mem_of_getElem? (i := 1036) (by decide +kernel), List.mem_of_getElem? (i := 1037) (by decide +kernel)⟩
theorem lw_p40 : lw_okq (⟨"EndlessTugModel", "towardsBy", "(II)I"⟩, 19) := ⟨⟨by decide +kernel, by decide +kernel⟩, List.mem_of_getElem? (i := 809) (by decide +kernel), List.mem_of_getElem? (i := 1052) (by decide +kernel), List.mem_of_getElem? (i := 1053) (by decide +kernel)⟩
theorem lw_p41 : lw_okq (⟨"EndlessTugModel", "nextToken", "()V"⟩, 19) := ⟨⟨by decide +kernel, by decide +kernel⟩, List.mem_of_getElem? (i := 809) (by decide +kernel), List.mem_of_getElem? (i := 1095) (by decide +kernel), List.mem_of_getElem? (i := 1096) (by decide +kernel)⟩
theorem lw_p42 : lw_okq (⟨"EndlessTugModel", "readsItem", "()Z"⟩, 19) := ⟨⟨by decide +kernel, by decide +kernel⟩, List.mem_of_getElem? (i := 809) (by decide +kernel), List.mem_of_getElem? (i := 1111) (by decide +kernel), List.mem_of_getElem? (i := 1112) (by decide +kernel)⟩
theorem lw_p43 : lw_okq (⟨"EndlessTugModel", "wordOf", "([C)I"⟩, 19) := ⟨⟨by decide +kernel, by decide +kernel⟩, List.mem_of_getElem? (i := 809) (by decide +kernel), List.mem_of_getElem? (i := 1115) (by decide +kernel), List.mem_of_getElem? (i := 1116) (by decide +kernel)⟩
theorem lw_p44 : lw_okq (⟨"EndlessTugModel", "readsPerson", "(I)Z"⟩, 19) := ⟨⟨by decide +kernel, by decide +kernel⟩, List.mem_of_getElem? (i := 809) (by decide +kernel), List.mem_of_getElem? (i := 1119) (by decide +kernel), List.mem_of_getElem? (i := 1120) (by decide +kernel)⟩
theorem lw_p45 : lw_okq (⟨"EndlessTugModel", "takesNumber", "(II)I"⟩, 19) := ⟨⟨by decide +kernel, by decide +kernel⟩, List.mem_of_getElem? (i := 809) (by decide +kernel), List.mem_of_getElem? (i := 1123) (by decide +kernel), List.mem_of_getElem? (i := 1124) (by decide +kernel)⟩
theorem lw_p46 : lw_okq (⟨"EndlessTugModel", "readsWeek", "(Z)Z"⟩, 19) := ⟨⟨by decide +kernel, by decide +kernel⟩, List.mem_of_getElem? (i := 809) (by decide +kernel), List.mem_of_getElem? (i := 1127) (by decide +kernel), List.mem_of_getElem? (i := 1128) (by decide +kernel)⟩
theorem lw_p47 : lw_okq (⟨"EndlessTugModel", "readsKnot", "()Z"⟩, 19) := ⟨⟨by decide +kernel, by decide +kernel⟩, List.mem_of_getElem? (i := 809) (by decide +kernel), List.mem_of_getElem? (i := 1131) (by decide +kernel), List.mem_of_getElem? (i := 1132) (by decide +kernel)⟩
def lw_privs_3 : List (MethodName × Nat) := [(⟨"EndlessTugModel", "relieves", "(II)V"⟩, 19), (⟨"EndlessTugModel", "goes", "(I)V"⟩, 19), (⟨"EndlessTugModel", "knotGoes", "()V"⟩, 19), (⟨"EndlessTugModel", "livesOn", "(I)V"⟩, 19), (⟨"EndlessTugModel", "someComes", "(I)V"⟩, 19), (⟨"EndlessTugModel", "setsAside", "()V"⟩, 19), (⟨"EndlessTugModel", "laysBack", "()V"⟩, 19), (⟨"EndlessTugModel", "towards", "(I)I"⟩, 19), (⟨"EndlessTugModel", "towardsBy", "(II)I"⟩, 19), (⟨"EndlessTugModel", "nextToken", "()V"⟩, 19), (⟨"EndlessTugModel", "readsItem", "()Z"⟩, 19), (⟨"EndlessTugModel", "wordOf", "([C)I"⟩, 19), (⟨"EndlessTugModel", "readsPerson", "(I)Z"⟩, 19), (⟨"EndlessTugModel", "takesNumber", "(II)I"⟩, 19), (⟨"EndlessTugModel", "readsWeek", "(Z)Z"⟩, 19), (⟨"EndlessTugModel", "readsKnot", "()Z"⟩, 19)]
theorem lw_r3 : ∀ q ∈ lw_privs_3, lw_okq q := List.forall_mem_cons.mpr ⟨lw_p32, List.forall_mem_cons.mpr ⟨lw_p33, List.forall_mem_cons.mpr ⟨lw_p34, List.forall_mem_cons.mpr ⟨lw_p35, List.forall_mem_cons.mpr ⟨lw_p36, List.forall_mem_cons.mpr ⟨lw_p37, List.forall_mem_cons.mpr ⟨lw_p38, List.forall_mem_cons.mpr ⟨lw_p39, List.forall_mem_cons.mpr ⟨lw_p40, List.forall_mem_cons.mpr ⟨lw_p41, List.forall_mem_cons.mpr ⟨lw_p42, List.forall_mem_cons.mpr ⟨lw_p43, List.forall_mem_cons.mpr ⟨lw_p44, List.forall_mem_cons.mpr ⟨lw_p45, List.forall_mem_cons.mpr ⟨lw_p46, List.forall_mem_cons.mpr ⟨lw_p47, fun _ h => absurd h List.not_mem_nil⟩⟩⟩⟩⟩⟩⟩⟩⟩⟩⟩⟩⟩⟩⟩⟩
theorem lw_p48 : lw_okq (⟨"EndlessTugModel", "wrongSheet", "(I)I"⟩, 19) := ⟨⟨by decide +kernel, by decide +kernel⟩, List.mem_of_getElem? (i := 809) (by decide +kernel), List.mem_of_getElem? (i := 1146) (by decide +kernel), List.mem_of_getElem? (i := 1147) (by decide +kernel)⟩
theorem lw_p49 : lw_okq (⟨"EndlessTugModel", "told", "(II)J"⟩, 19) := ⟨⟨by decide +kernel, by decide +kernel⟩, List.mem_of_getElem? (i := 809) (by decide +kernel), List.mem_of_getElem? (i := 1150) (by decide +kernel), List.mem_of_getElem? (i := 1151) (by decide +kernel)⟩
theorem lw_p50 : lw_okq (⟨"EndlessTugModel", "tells", "(IIJ)V"⟩, 19) := ⟨⟨by decide +kernel, by decide +kernel⟩, List.mem_of_getElem? (i := 809) (by decide +kernel), List.mem_of_getElem? (i := 1154) (by decide +kernel), List.mem_of_getElem? (i := 1155) (by decide +kernel)⟩
theorem lw_p51 : lw_okq (⟨"EndlessTugModel", "isSo", "(I)Z"⟩, 19) := ⟨⟨by decide +kernel, by decide +kernel⟩, List.mem_of_getElem? (i := 809) (by decide +kernel), List.mem_of_getElem? (i := 1175) (by decide +kernel), List.mem_of_getElem? (i := 1176) (by decide +kernel)⟩
def lw_privs_4 : List (MethodName × Nat) := [(⟨"EndlessTugModel", "wrongSheet", "(I)I"⟩, 19), (⟨"EndlessTugModel", "told", "(II)J"⟩, 19), (⟨"EndlessTugModel", "tells", "(IIJ)V"⟩, 19), (⟨"EndlessTugModel", "isSo", "(I)Z"⟩, 19)]
theorem lw_r4 : ∀ q ∈ lw_privs_4, lw_okq q := List.forall_mem_cons.mpr ⟨lw_p48, List.forall_mem_cons.mpr ⟨lw_p49, List.forall_mem_cons.mpr ⟨lw_p50, List.forall_mem_cons.mpr ⟨lw_p51, fun _ h => absurd h List.not_mem_nil⟩⟩⟩⟩
def lw_privs : List (MethodName × Nat) := lw_privs_1 ++ (lw_privs_2 ++ (lw_privs_3 ++ (lw_privs_4)))
def lw_tbl : List Cond := k2_sels lw_privs ++ tables_1
theorem lw_privs_ok : ∀ q ∈ lw_privs, lw_okq q := by
  show ∀ q ∈ lw_privs_1 ++ (lw_privs_2 ++ (lw_privs_3 ++ (lw_privs_4))), lw_okq q
  exact List.forall_mem_append.mpr ⟨lw_r1, List.forall_mem_append.mpr ⟨lw_r2, List.forall_mem_append.mpr ⟨lw_r3, lw_r4⟩⟩⟩
end
section
def RX0 : String := "EndlessTug$Best"
def TX0 : u_T := fun k => match k with
  | 0 => ("EndlessTug$Best", "isAny", "Z", false)
  | 1 => ("EndlessTug$Best", "which", "I", false)
  | _ => ("EndlessTug$Best", "worth", "I", false)
def tyX0 : Nat → FieldType := fun k => match k with
  | 0 => .boolean
  | 1 => .int
  | _ => .int
theorem nmX0 : ∀ a, a < 3 → ∀ b, b < 3 → a ≠ b → (TX0 a).2.1 ≠ (TX0 b).2.1 := by decide +kernel
theorem tyX0_ok : ∀ k, k < 3 → parseFieldDescriptor (TX0 k).2.2.1 = some (tyX0 k) := by decide +kernel
abbrev cX0_init : ByteArray := prog_2_method_1_code
def yX0_init : MethodName := ⟨RX0, "<init>", "()V"⟩
abbrev cX0_clear : ByteArray := prog_2_method_2_code
def yX0_clear : MethodName := ⟨RX0, "clear", "()V"⟩
abbrev cX0_offer : ByteArray := prog_2_method_3_code
def yX0_offer : MethodName := ⟨RX0, "offer", "(II)V"⟩
def RX1 : String := "EndlessTug$Drinker"
def TX1 : u_T := fun k => match k with
  | _ => ("EndlessTug$Man", "number", "I", true)
def tyX1 : Nat → FieldType := fun k => match k with
  | _ => .int
theorem nmX1 : ∀ a, a < 1 → ∀ b, b < 1 → a ≠ b → (TX1 a).2.1 ≠ (TX1 b).2.1 := by decide +kernel
theorem tyX1_ok : ∀ k, k < 1 → parseFieldDescriptor (TX1 k).2.2.1 = some (tyX1 k) := by decide +kernel
abbrev cX1_init : ByteArray := prog_3_method_1_code
def yX1_init : MethodName := ⟨RX1, "<init>", "(I)V"⟩
abbrev cX1_isOf : ByteArray := prog_3_method_2_code
def yX1_isOf : MethodName := ⟨RX1, "isOf", "(I)Z"⟩
abbrev cX1_pull : ByteArray := prog_3_method_3_code
def yX1_pull : MethodName := ⟨RX1, "pull", "(LEndlessTug$Person;LEndlessTug$Green;)I"⟩
abbrev cX1_tire : ByteArray := prog_3_method_4_code
def yX1_tire : MethodName := ⟨RX1, "tire", "(LEndlessTug$Green;)I"⟩
abbrev cX1_letsGo : ByteArray := prog_3_method_5_code
def yX1_letsGo : MethodName := ⟨RX1, "letsGo", "(LEndlessTug$Person;LEndlessTug$Green;)Z"⟩
def RX2 : String := "EndlessTug$Green"
def TX2 : u_T := fun k => match k with
  | 0 => ("EndlessTug$Green", "day", "I", false)
  | 1 => ("EndlessTug$Green", "harvest", "I", false)
  | 2 => ("EndlessTug$Green", "knot", "I", false)
  | 3 => ("EndlessTug$Green", "slack", "I", false)
  | 4 => ("EndlessTug$Green", "size", "I", false)
  | 5 => ("EndlessTug$Green", "kinds", "[LEndlessTug$Man;", true)
  | _ => ("EndlessTug$Green", "people", "[LEndlessTug$Person;", true)
def tyX2 : Nat → FieldType := fun k => match k with
  | 0 => .int
  | 1 => .int
  | 2 => .int
  | 3 => .int
  | 4 => .int
  | 5 => .array (.object "EndlessTug$Man")
  | _ => .array (.object "EndlessTug$Person")
theorem nmX2 : ∀ a, a < 7 → ∀ b, b < 7 → a ≠ b → (TX2 a).2.1 ≠ (TX2 b).2.1 := by decide +kernel
theorem tyX2_ok : ∀ k, k < 7 → parseFieldDescriptor (TX2 k).2.2.1 = some (tyX2 k) := by decide +kernel
abbrev cX2_init : ByteArray := prog_4_method_1_code
def yX2_init : MethodName := ⟨RX2, "<init>", "()V"⟩
abbrev cX2_become : ByteArray := prog_4_method_2_code
def yX2_become : MethodName := ⟨RX2, "become", "(LEndlessTug$Green;)V"⟩
abbrev cX2_has : ByteArray := prog_4_method_3_code
def yX2_has : MethodName := ⟨RX2, "has", "(I)Z"⟩
abbrev cX2_isFull : ByteArray := prog_4_method_4_code
def yX2_isFull : MethodName := ⟨RX2, "isFull", "()Z"⟩
abbrev cX2_addOne : ByteArray := prog_4_method_5_code
def yX2_addOne : MethodName := ⟨RX2, "addOne", "(II)V"⟩
abbrev cX2_weekOfYear : ByteArray := prog_4_method_6_code
def yX2_weekOfYear : MethodName := ⟨RX2, "weekOfYear", "()I"⟩
abbrev cX2_isHarvest : ByteArray := prog_4_method_7_code
def yX2_isHarvest : MethodName := ⟨RX2, "isHarvest", "()Z"⟩
abbrev cX2_isSunday : ByteArray := prog_4_method_8_code
def yX2_isSunday : MethodName := ⟨RX2, "isSunday", "()Z"⟩
abbrev cX2_towards : ByteArray := prog_4_method_9_code
def yX2_towards : MethodName := ⟨RX2, "towards", "(I)I"⟩
abbrev cX2_sideAhead : ByteArray := prog_4_method_10_code
def yX2_sideAhead : MethodName := ⟨RX2, "sideAhead", "()I"⟩
abbrev cX2_setOn : ByteArray := prog_4_method_11_code
def yX2_setOn : MethodName := ⟨RX2, "setOn", "()I"⟩
abbrev cX2_setOff : ByteArray := prog_4_method_12_code
def yX2_setOff : MethodName := ⟨RX2, "setOff", "(I)I"⟩
abbrev cX2_pullOf : ByteArray := prog_4_method_13_code
def yX2_pullOf : MethodName := ⟨RX2, "pullOf", "(I)I"⟩
abbrev cX2_pullOfSet : ByteArray := prog_4_method_14_code
def yX2_pullOfSet : MethodName := ⟨RX2, "pullOfSet", "(I)I"⟩
abbrev cX2_sizeOf : ByteArray := prog_4_method_15_code
def yX2_sizeOf : MethodName := ⟨RX2, "sizeOf", "(I)I"⟩
abbrev cX2_tiredTogether : ByteArray := prog_4_method_16_code
def yX2_tiredTogether : MethodName := ⟨RX2, "tiredTogether", "()I"⟩
abbrev cX2_canSwap : ByteArray := prog_4_method_17_code
def yX2_canSwap : MethodName := ⟨RX2, "canSwap", "(II)Z"⟩
abbrev cX2_swap : ByteArray := prog_4_method_18_code
def yX2_swap : MethodName := ⟨RX2, "swap", "(II)V"⟩
abbrev cX2_go : ByteArray := prog_4_method_19_code
def yX2_go : MethodName := ⟨RX2, "go", "(I)V"⟩
abbrev cX2_goDay : ByteArray := prog_4_method_20_code
def yX2_goDay : MethodName := ⟨RX2, "goDay", "()V"⟩
abbrev cX2_leadOfChapel : ByteArray := prog_4_method_21_code
def yX2_leadOfChapel : MethodName := ⟨RX2, "leadOfChapel", "()I"⟩
abbrev cX2_moveKnot : ByteArray := prog_4_method_22_code
def yX2_moveKnot : MethodName := ⟨RX2, "moveKnot", "(I)V"⟩
abbrev cX2_callOut : ByteArray := prog_4_method_23_code
def yX2_callOut : MethodName := ⟨RX2, "callOut", "(I)V"⟩
abbrev cX2_goesAs : ByteArray := prog_4_method_24_code
def yX2_goesAs : MethodName := ⟨RX2, "goesAs", "(LEndlessTug$Sheet;)Z"⟩
def RX3 : String := "EndlessTug$Man"
def TX3 : u_T := fun k => match k with
  | _ => ("EndlessTug$Man", "number", "I", true)
def tyX3 : Nat → FieldType := fun k => match k with
  | _ => .int
theorem nmX3 : ∀ a, a < 1 → ∀ b, b < 1 → a ≠ b → (TX3 a).2.1 ≠ (TX3 b).2.1 := by decide +kernel
theorem tyX3_ok : ∀ k, k < 1 → parseFieldDescriptor (TX3 k).2.2.1 = some (tyX3 k) := by decide +kernel
abbrev cX3_init : ByteArray := prog_5_method_1_code
def yX3_init : MethodName := ⟨RX3, "<init>", "(I)V"⟩
abbrev cX3_isOf : ByteArray := prog_5_method_2_code
def yX3_isOf : MethodName := ⟨RX3, "isOf", "(I)Z"⟩
abbrev cX3_pull : ByteArray := prog_5_method_3_code
def yX3_pull : MethodName := ⟨RX3, "pull", "(LEndlessTug$Person;LEndlessTug$Green;)I"⟩
abbrev cX3_tire : ByteArray := prog_5_method_4_code
def yX3_tire : MethodName := ⟨RX3, "tire", "(LEndlessTug$Green;)I"⟩
abbrev cX3_letsGo : ByteArray := prog_5_method_5_code
def yX3_letsGo : MethodName := ⟨RX3, "letsGo", "(LEndlessTug$Person;LEndlessTug$Green;)Z"⟩
def RX4 : String := "EndlessTug$Person"
def TX4 : u_T := fun k => match k with
  | 0 => ("EndlessTug$Person", "kind", "LEndlessTug$Man;", false)
  | 1 => ("EndlessTug$Person", "side", "I", false)
  | 2 => ("EndlessTug$Person", "on", "I", false)
  | 3 => ("EndlessTug$Person", "tired", "I", false)
  | _ => ("EndlessTug$Person", "strong", "I", false)
def tyX4 : Nat → FieldType := fun k => match k with
  | 0 => .object "EndlessTug$Man"
  | 1 => .int
  | 2 => .int
  | 3 => .int
  | _ => .int
theorem nmX4 : ∀ a, a < 5 → ∀ b, b < 5 → a ≠ b → (TX4 a).2.1 ≠ (TX4 b).2.1 := by decide +kernel
theorem tyX4_ok : ∀ k, k < 5 → parseFieldDescriptor (TX4 k).2.2.1 = some (tyX4 k) := by decide +kernel
abbrev cX4_init : ByteArray := prog_6_method_1_code
def yX4_init : MethodName := ⟨RX4, "<init>", "(LEndlessTug$Man;)V"⟩
abbrev cX4_become : ByteArray := prog_6_method_2_code
def yX4_become : MethodName := ⟨RX4, "become", "(LEndlessTug$Person;)V"⟩
abbrev cX4_spendDay : ByteArray := prog_6_method_3_code
def yX4_spendDay : MethodName := ⟨RX4, "spendDay", "(LEndlessTug$Green;)V"⟩
def RX5 : String := "EndlessTug$Preacher"
def TX5 : u_T := fun k => match k with
  | _ => ("EndlessTug$Man", "number", "I", true)
def tyX5 : Nat → FieldType := fun k => match k with
  | _ => .int
theorem nmX5 : ∀ a, a < 1 → ∀ b, b < 1 → a ≠ b → (TX5 a).2.1 ≠ (TX5 b).2.1 := by decide +kernel
theorem tyX5_ok : ∀ k, k < 1 → parseFieldDescriptor (TX5 k).2.2.1 = some (tyX5 k) := by decide +kernel
abbrev cX5_init : ByteArray := prog_7_method_1_code
def yX5_init : MethodName := ⟨RX5, "<init>", "(I)V"⟩
abbrev cX5_isOf : ByteArray := prog_7_method_2_code
def yX5_isOf : MethodName := ⟨RX5, "isOf", "(I)Z"⟩
abbrev cX5_pull : ByteArray := prog_7_method_3_code
def yX5_pull : MethodName := ⟨RX5, "pull", "(LEndlessTug$Person;LEndlessTug$Green;)I"⟩
abbrev cX5_tire : ByteArray := prog_7_method_4_code
def yX5_tire : MethodName := ⟨RX5, "tire", "(LEndlessTug$Green;)I"⟩
def RX6 : String := "EndlessTug$Sheet"
def TX6 : u_T := fun k => match k with
  | 0 => ("EndlessTug$Sheet", "bits", "I", false)
  | 1 => ("EndlessTug$Sheet", "size", "I", false)
  | _ => ("EndlessTug$Sheet", "numbers", "[J", true)
def tyX6 : Nat → FieldType := fun k => match k with
  | 0 => .int
  | 1 => .int
  | _ => .array .long
theorem nmX6 : ∀ a, a < 3 → ∀ b, b < 3 → a ≠ b → (TX6 a).2.1 ≠ (TX6 b).2.1 := by decide +kernel
theorem tyX6_ok : ∀ k, k < 3 → parseFieldDescriptor (TX6 k).2.2.1 = some (tyX6 k) := by decide +kernel
abbrev cX6_init : ByteArray := prog_8_method_1_code
def yX6_init : MethodName := ⟨RX6, "<init>", "()V"⟩
abbrev cX6_isMissing : ByteArray := prog_8_method_2_code
def yX6_isMissing : MethodName := ⟨RX6, "isMissing", "()Z"⟩
abbrev cX6_begin : ByteArray := prog_8_method_3_code
def yX6_begin : MethodName := ⟨RX6, "begin", "(II)V"⟩
abbrev cX6_holds : ByteArray := prog_8_method_4_code
def yX6_holds : MethodName := ⟨RX6, "holds", "(II)Z"⟩
abbrev cX6_put : ByteArray := prog_8_method_5_code
def yX6_put : MethodName := ⟨RX6, "put", "(IJ)V"⟩
def RX7 : String := "EndlessTug$Son"
def TX7 : u_T := fun k => match k with
  | _ => ("EndlessTug$Man", "number", "I", true)
def tyX7 : Nat → FieldType := fun k => match k with
  | _ => .int
theorem nmX7 : ∀ a, a < 1 → ∀ b, b < 1 → a ≠ b → (TX7 a).2.1 ≠ (TX7 b).2.1 := by decide +kernel
theorem tyX7_ok : ∀ k, k < 1 → parseFieldDescriptor (TX7 k).2.2.1 = some (tyX7 k) := by decide +kernel
abbrev cX7_init : ByteArray := prog_9_method_1_code
def yX7_init : MethodName := ⟨RX7, "<init>", "(I)V"⟩
abbrev cX7_isOf : ByteArray := prog_9_method_2_code
def yX7_isOf : MethodName := ⟨RX7, "isOf", "(I)Z"⟩
abbrev cX7_pull : ByteArray := prog_9_method_3_code
def yX7_pull : MethodName := ⟨RX7, "pull", "(LEndlessTug$Person;LEndlessTug$Green;)I"⟩
abbrev cX7_tire : ByteArray := prog_9_method_4_code
def yX7_tire : MethodName := ⟨RX7, "tire", "(LEndlessTug$Green;)I"⟩
abbrev cX7_letsGo : ByteArray := prog_9_method_5_code
def yX7_letsGo : MethodName := ⟨RX7, "letsGo", "(LEndlessTug$Person;LEndlessTug$Green;)Z"⟩
def RX8 : String := "EndlessTug$Stranger"
def TX8 : u_T := fun k => match k with
  | _ => ("EndlessTug$Man", "number", "I", true)
def tyX8 : Nat → FieldType := fun k => match k with
  | _ => .int
theorem nmX8 : ∀ a, a < 1 → ∀ b, b < 1 → a ≠ b → (TX8 a).2.1 ≠ (TX8 b).2.1 := by decide +kernel
theorem tyX8_ok : ∀ k, k < 1 → parseFieldDescriptor (TX8 k).2.2.1 = some (tyX8 k) := by decide +kernel
abbrev cX8_init : ByteArray := prog_10_method_1_code
def yX8_init : MethodName := ⟨RX8, "<init>", "(I)V"⟩
abbrev cX8_isOf : ByteArray := prog_10_method_2_code
def yX8_isOf : MethodName := ⟨RX8, "isOf", "(I)Z"⟩
abbrev cX8_pull : ByteArray := prog_10_method_3_code
def yX8_pull : MethodName := ⟨RX8, "pull", "(LEndlessTug$Person;LEndlessTug$Green;)I"⟩
abbrev cX8_tire : ByteArray := prog_10_method_4_code
def yX8_tire : MethodName := ⟨RX8, "tire", "(LEndlessTug$Green;)I"⟩
abbrev cX8_letsGo : ByteArray := prog_10_method_5_code
def yX8_letsGo : MethodName := ⟨RX8, "letsGo", "(LEndlessTug$Person;LEndlessTug$Green;)Z"⟩
def RX9 : String := "EndlessTug$Tape"
def TX9 : u_T := fun k => match k with
  | 0 => ("EndlessTug$Tape", "bytes", "[I", true)
  | 1 => ("EndlessTug$Tape", "size", "I", false)
  | 2 => ("EndlessTug$Tape", "sort", "I", false)
  | 3 => ("EndlessTug$Tape", "start", "I", false)
  | 4 => ("EndlessTug$Tape", "end", "I", false)
  | _ => ("EndlessTug$Tape", "taken", "I", false)
def tyX9 : Nat → FieldType := fun k => match k with
  | 0 => .array .int
  | 1 => .int
  | 2 => .int
  | 3 => .int
  | 4 => .int
  | _ => .int
theorem nmX9 : ∀ a, a < 6 → ∀ b, b < 6 → a ≠ b → (TX9 a).2.1 ≠ (TX9 b).2.1 := by decide +kernel
theorem tyX9_ok : ∀ k, k < 6 → parseFieldDescriptor (TX9 k).2.2.1 = some (tyX9 k) := by decide +kernel
abbrev cX9_init : ByteArray := prog_11_method_1_code
def yX9_init : MethodName := ⟨RX9, "<init>", "()V"⟩
abbrev cX9_add : ByteArray := prog_11_method_2_code
def yX9_add : MethodName := ⟨RX9, "add", "(I)V"⟩
abbrev cX9_tell : ByteArray := prog_11_method_3_code
def yX9_tell : MethodName := ⟨RX9, "tell", "(LEndlessTug$Green;)I"⟩
abbrev cX9_takeItem : ByteArray := prog_11_method_4_code
def yX9_takeItem : MethodName := ⟨RX9, "takeItem", "(LEndlessTug$Green;)Z"⟩
abbrev cX9_takePerson : ByteArray := prog_11_method_5_code
def yX9_takePerson : MethodName := ⟨RX9, "takePerson", "(LEndlessTug$Green;I)Z"⟩
abbrev cX9_takeWeek : ByteArray := prog_11_method_6_code
def yX9_takeWeek : MethodName := ⟨RX9, "takeWeek", "(LEndlessTug$Green;I)Z"⟩
abbrev cX9_takeKnot : ByteArray := prog_11_method_7_code
def yX9_takeKnot : MethodName := ⟨RX9, "takeKnot", "(LEndlessTug$Green;)Z"⟩
abbrev cX9_takeSlack : ByteArray := prog_11_method_8_code
def yX9_takeSlack : MethodName := ⟨RX9, "takeSlack", "(LEndlessTug$Green;)Z"⟩
abbrev cX9_takeSide : ByteArray := prog_11_method_9_code
def yX9_takeSide : MethodName := ⟨RX9, "takeSide", "()I"⟩
abbrev cX9_takeWord : ByteArray := prog_11_method_10_code
def yX9_takeWord : MethodName := ⟨RX9, "takeWord", "(Ljava/lang/String;)Z"⟩
abbrev cX9_takeNumber : ByteArray := prog_11_method_11_code
def yX9_takeNumber : MethodName := ⟨RX9, "takeNumber", "(II)Z"⟩
abbrev cX9_kindNamed : ByteArray := prog_11_method_12_code
def yX9_kindNamed : MethodName := ⟨RX9, "kindNamed", "()I"⟩
abbrev cX9_isWord : ByteArray := prog_11_method_13_code
def yX9_isWord : MethodName := ⟨RX9, "isWord", "(Ljava/lang/String;)Z"⟩
abbrev cX9_lookAtNext : ByteArray := prog_11_method_14_code
def yX9_lookAtNext : MethodName := ⟨RX9, "lookAtNext", "()V"⟩
abbrev cX9_sortOf : ByteArray := prog_11_method_15_code
def yX9_sortOf : MethodName := ⟨RX9, "sortOf", "(I)I"⟩
def RX10 : String := "EndlessTug$Woman"
def TX10 : u_T := fun k => match k with
  | _ => ("EndlessTug$Man", "number", "I", true)
def tyX10 : Nat → FieldType := fun k => match k with
  | _ => .int
theorem nmX10 : ∀ a, a < 1 → ∀ b, b < 1 → a ≠ b → (TX10 a).2.1 ≠ (TX10 b).2.1 := by decide +kernel
theorem tyX10_ok : ∀ k, k < 1 → parseFieldDescriptor (TX10 k).2.2.1 = some (tyX10 k) := by decide +kernel
abbrev cX10_init : ByteArray := prog_12_method_1_code
def yX10_init : MethodName := ⟨RX10, "<init>", "(I)V"⟩
abbrev cX10_isOf : ByteArray := prog_12_method_2_code
def yX10_isOf : MethodName := ⟨RX10, "isOf", "(I)Z"⟩
abbrev cX10_pull : ByteArray := prog_12_method_3_code
def yX10_pull : MethodName := ⟨RX10, "pull", "(LEndlessTug$Person;LEndlessTug$Green;)I"⟩
abbrev cX10_tire : ByteArray := prog_12_method_4_code
def yX10_tire : MethodName := ⟨RX10, "tire", "(LEndlessTug$Green;)I"⟩
abbrev cX10_letsGo : ByteArray := prog_12_method_5_code
def yX10_letsGo : MethodName := ⟨RX10, "letsGo", "(LEndlessTug$Person;LEndlessTug$Green;)Z"⟩
def RX11 : String := "EndlessTug"
def TX11 : u_T := fun k => match k with
  | 0 => ("EndlessTug", "green", "LEndlessTug$Green;", true)
  | 1 => ("EndlessTug", "trial", "LEndlessTug$Green;", true)
  | 2 => ("EndlessTug", "kept", "LEndlessTug$Green;", true)
  | 3 => ("EndlessTug", "isKept", "Z", false)
  | 4 => ("EndlessTug", "best", "LEndlessTug$Best;", true)
  | 5 => ("EndlessTug", "tape", "LEndlessTug$Tape;", true)
  | 6 => ("EndlessTug", "sheets", "[LEndlessTug$Sheet;", true)
  | _ => ("EndlessTug", "found", "[I", true)
def tyX11 : Nat → FieldType := fun k => match k with
  | 0 => .object "EndlessTug$Green"
  | 1 => .object "EndlessTug$Green"
  | 2 => .object "EndlessTug$Green"
  | 3 => .boolean
  | 4 => .object "EndlessTug$Best"
  | 5 => .object "EndlessTug$Tape"
  | 6 => .array (.object "EndlessTug$Sheet")
  | _ => .array .int
theorem nmX11 : ∀ a, a < 8 → ∀ b, b < 8 → a ≠ b → (TX11 a).2.1 ≠ (TX11 b).2.1 := by decide +kernel
theorem tyX11_ok : ∀ k, k < 8 → parseFieldDescriptor (TX11 k).2.2.1 = some (tyX11 k) := by decide +kernel
abbrev cX11_init : ByteArray := prog_1_method_1_code
def yX11_init : MethodName := ⟨RX11, "<init>", "()V"⟩
abbrev cX11_slack : ByteArray := prog_1_method_2_code
def yX11_slack : MethodName := ⟨RX11, "slack", "(I)I"⟩
abbrev cX11_harvest : ByteArray := prog_1_method_3_code
def yX11_harvest : MethodName := ⟨RX11, "harvest", "(I)I"⟩
abbrev cX11_knot : ByteArray := prog_1_method_4_code
def yX11_knot : MethodName := ⟨RX11, "knot", "(I)I"⟩
abbrev cX11_now : ByteArray := prog_1_method_5_code
def yX11_now : MethodName := ⟨RX11, "now", "(I)I"⟩
abbrev cX11_person : ByteArray := prog_1_method_6_code
def yX11_person : MethodName := ⟨RX11, "person", "(II)I"⟩
abbrev cX11_of : ByteArray := prog_1_method_7_code
def yX11_of : MethodName := ⟨RX11, "of", "(II)I"⟩
abbrev cX11_set : ByteArray := prog_1_method_8_code
def yX11_set : MethodName := ⟨RX11, "set", "(III)I"⟩
abbrev cX11_turn : ByteArray := prog_1_method_9_code
def yX11_turn : MethodName := ⟨RX11, "turn", "(II)I"⟩
abbrev cX11_as : ByteArray := prog_1_method_10_code
def yX11_as : MethodName := ⟨RX11, "as", "(II)I"⟩
abbrev cX11_relieve : ByteArray := prog_1_method_11_code
def yX11_relieve : MethodName := ⟨RX11, "relieve", "(II)I"⟩
abbrev cX11_days : ByteArray := prog_1_method_12_code
def yX11_days : MethodName := ⟨RX11, "days", "(I)I"⟩
abbrev cX11_on : ByteArray := prog_1_method_13_code
def yX11_on : MethodName := ⟨RX11, "on", "(II)I"⟩
abbrev cX11_then : ByteArray := prog_1_method_14_code
def yX11_then : MethodName := ⟨RX11, "then", "(III)I"⟩
abbrev cX11_wins : ByteArray := prog_1_method_15_code
def yX11_wins : MethodName := ⟨RX11, "wins", "(II)I"⟩
abbrev cX11_off : ByteArray := prog_1_method_16_code
def yX11_off : MethodName := ⟨RX11, "off", "(I)I"⟩
abbrev cX11_turns : ByteArray := prog_1_method_17_code
def yX11_turns : MethodName := ⟨RX11, "turns", "()I"⟩
abbrev cX11_spell : ByteArray := prog_1_method_18_code
def yX11_spell : MethodName := ⟨RX11, "spell", "(II)I"⟩
abbrev cX11_kind : ByteArray := prog_1_method_19_code
def yX11_kind : MethodName := ⟨RX11, "kind", "(II)I"⟩
abbrev cX11_week : ByteArray := prog_1_method_20_code
def yX11_week : MethodName := ⟨RX11, "week", "(II)I"⟩
abbrev cX11_strong : ByteArray := prog_1_method_21_code
def yX11_strong : MethodName := ⟨RX11, "strong", "(III)I"⟩
abbrev cX11_bears : ByteArray := prog_1_method_22_code
def yX11_bears : MethodName := ⟨RX11, "bears", "(II)I"⟩
abbrev cX11_fewest : ByteArray := prog_1_method_23_code
def yX11_fewest : MethodName := ⟨RX11, "fewest", "(I)I"⟩
abbrev cX11_traitor : ByteArray := prog_1_method_24_code
def yX11_traitor : MethodName := ⟨RX11, "traitor", "(I)I"⟩
abbrev cX11_feed : ByteArray := prog_1_method_25_code
def yX11_feed : MethodName := ⟨RX11, "feed", "(II)I"⟩
abbrev cX11_wipe : ByteArray := prog_1_method_26_code
def yX11_wipe : MethodName := ⟨RX11, "wipe", "()I"⟩
abbrev cX11_green : ByteArray := prog_1_method_27_code
def yX11_green : MethodName := ⟨RX11, "green", "()I"⟩
abbrev cX11_sheet : ByteArray := prog_1_method_28_code
def yX11_sheet : MethodName := ⟨RX11, "sheet", "(III)I"⟩
abbrev cX11_write : ByteArray := prog_1_method_29_code
def yX11_write : MethodName := ⟨RX11, "write", "(IIJ)J"⟩
abbrev cX11_copy : ByteArray := prog_1_method_30_code
def yX11_copy : MethodName := ⟨RX11, "copy", "(IIIII)I"⟩
abbrev cX11_lays : ByteArray := prog_1_method_31_code
def yX11_lays : MethodName := ⟨RX11, "lays", "(I)I"⟩
abbrev cX11_book : ByteArray := prog_1_method_32_code
def yX11_book : MethodName := ⟨RX11, "book", "(I)I"⟩
abbrev cX11_read : ByteArray := prog_1_method_33_code
def yX11_read : MethodName := ⟨RX11, "read", "(II)I"⟩
abbrev cX11_image : ByteArray := prog_1_method_34_code
def yX11_image : MethodName := ⟨RX11, "image", "()I"⟩
abbrev cX11_undo : ByteArray := prog_1_method_35_code
def yX11_undo : MethodName := ⟨RX11, "undo", "()I"⟩
abbrev cX11_tear : ByteArray := prog_1_method_36_code
def yX11_tear : MethodName := ⟨RX11, "tear", "()I"⟩
abbrev cX11_count : ByteArray := prog_1_method_37_code
def yX11_count : MethodName := ⟨RX11, "count", "(I)I"⟩
abbrev cX11_status : ByteArray := prog_1_method_38_code
def yX11_status : MethodName := ⟨RX11, "status", "(I)I"⟩
abbrev cX11_finding : ByteArray := prog_1_method_39_code
def yX11_finding : MethodName := ⟨RX11, "finding", "(I)I"⟩
abbrev cX11_bestOrNone : ByteArray := prog_1_method_40_code
def yX11_bestOrNone : MethodName := ⟨RX11, "bestOrNone", "()I"⟩
abbrev cX11_isWithin : ByteArray := prog_1_method_41_code
def yX11_isWithin : MethodName := ⟨RX11, "isWithin", "(III)Z"⟩
abbrev cX11_isKind : ByteArray := prog_1_method_42_code
def yX11_isKind : MethodName := ⟨RX11, "isKind", "(I)Z"⟩
abbrev cX11_isSide : ByteArray := prog_1_method_43_code
def yX11_isSide : MethodName := ⟨RX11, "isSide", "(I)Z"⟩
abbrev cX11_isSheet : ByteArray := prog_1_method_44_code
def yX11_isSheet : MethodName := ⟨RX11, "isSheet", "(I)Z"⟩
def RX12 : String := "EndlessTugModel"
def TX12 : u_T := fun k => match k with
  | 0 => ("EndlessTugModel", "s", "[I", true)
  | 1 => ("EndlessTugModel", "kept", "[I", true)
  | 2 => ("EndlessTugModel", "aside", "[I", true)
  | 3 => ("EndlessTugModel", "isKept", "Z", false)
  | 4 => ("EndlessTugModel", "found", "[I", true)
  | 5 => ("EndlessTugModel", "tape", "[I", true)
  | 6 => ("EndlessTugModel", "taped", "I", false)
  | 7 => ("EndlessTugModel", "token", "I", false)
  | 8 => ("EndlessTugModel", "begun", "I", false)
  | 9 => ("EndlessTugModel", "ended", "I", false)
  | 10 => ("EndlessTugModel", "value", "J", false)
  | 11 => ("EndlessTugModel", "letters", "[C", true)
  | 12 => ("EndlessTugModel", "sides", "[C", true)
  | 13 => ("EndlessTugModel", "more", "[C", true)
  | 14 => ("EndlessTugModel", "others", "[C", true)
  | 15 => ("EndlessTugModel", "widths", "[I", true)
  | 16 => ("EndlessTugModel", "sizes", "[I", true)
  | 17 => ("EndlessTugModel", "cells", "[J", true)
  | _ => ("EndlessTugModel", "carried", "[J", true)
def tyX12 : Nat → FieldType := fun k => match k with
  | 0 => .array .int
  | 1 => .array .int
  | 2 => .array .int
  | 3 => .boolean
  | 4 => .array .int
  | 5 => .array .int
  | 6 => .int
  | 7 => .int
  | 8 => .int
  | 9 => .int
  | 10 => .long
  | 11 => .array .char
  | 12 => .array .char
  | 13 => .array .char
  | 14 => .array .char
  | 15 => .array .int
  | 16 => .array .int
  | 17 => .array .long
  | _ => .array .long
theorem nmX12 : ∀ a, a < 19 → ∀ b, b < 19 → a ≠ b → (TX12 a).2.1 ≠ (TX12 b).2.1 := by decide +kernel
theorem tyX12_ok : ∀ k, k < 19 → parseFieldDescriptor (TX12 k).2.2.1 = some (tyX12 k) := by decide +kernel
abbrev cX12_init : ByteArray := prog_14_method_1_code
def yX12_init : MethodName := ⟨RX12, "<init>", "()V"⟩
abbrev cX12_no : ByteArray := prog_14_method_2_code
def yX12_no : MethodName := ⟨RX12, "no", "(I)I"⟩
abbrev cX12_in1 : ByteArray := prog_14_method_3_code
def yX12_in1 : MethodName := ⟨RX12, "in1", "(III)Z"⟩
abbrev cX12_isPerson : ByteArray := prog_14_method_6_code
def yX12_isPerson : MethodName := ⟨RX12, "isPerson", "(I)Z"⟩
abbrev cX12_isSide : ByteArray := prog_14_method_7_code
def yX12_isSide : MethodName := ⟨RX12, "isSide", "(I)Z"⟩
abbrev cX12_get : ByteArray := prog_14_method_8_code
def yX12_get : MethodName := ⟨RX12, "get", "(II)I"⟩
abbrev cX12_puts : ByteArray := prog_14_method_9_code
def yX12_puts : MethodName := ⟨RX12, "puts", "(III)V"⟩
abbrev cX12_setsAside : ByteArray := prog_14_method_10_code
def yX12_setsAside : MethodName := ⟨RX12, "setsAside", "()V"⟩
abbrev cX12_laysBack : ByteArray := prog_14_method_11_code
def yX12_laysBack : MethodName := ⟨RX12, "laysBack", "()V"⟩
abbrev cX12_isSunday : ByteArray := prog_14_method_12_code
def yX12_isSunday : MethodName := ⟨RX12, "isSunday", "()Z"⟩
abbrev cX12_weekNow : ByteArray := prog_14_method_13_code
def yX12_weekNow : MethodName := ⟨RX12, "weekNow", "()I"⟩
abbrev cX12_isHarvest : ByteArray := prog_14_method_14_code
def yX12_isHarvest : MethodName := ⟨RX12, "isHarvest", "()Z"⟩
abbrev cX12_aheadNow : ByteArray := prog_14_method_15_code
def yX12_aheadNow : MethodName := ⟨RX12, "aheadNow", "()I"⟩
abbrev cX12_pullsOf : ByteArray := prog_14_method_16_code
def yX12_pullsOf : MethodName := ⟨RX12, "pullsOf", "(I)I"⟩
abbrev cX12_tiresOf : ByteArray := prog_14_method_17_code
def yX12_tiresOf : MethodName := ⟨RX12, "tiresOf", "(I)I"⟩
abbrev cX12_letsGo : ByteArray := prog_14_method_18_code
def yX12_letsGo : MethodName := ⟨RX12, "letsGo", "(I)Z"⟩
abbrev cX12_sidePulls : ByteArray := prog_14_method_19_code
def yX12_sidePulls : MethodName := ⟨RX12, "sidePulls", "(I)I"⟩
abbrev cX12_held : ByteArray := prog_14_method_20_code
def yX12_held : MethodName := ⟨RX12, "held", "(III)I"⟩
abbrev cX12_knotGoes : ByteArray := prog_14_method_21_code
def yX12_knotGoes : MethodName := ⟨RX12, "knotGoes", "()V"⟩
abbrev cX12_livesOn : ByteArray := prog_14_method_22_code
def yX12_livesOn : MethodName := ⟨RX12, "livesOn", "(I)V"⟩
abbrev cX12_someComes : ByteArray := prog_14_method_23_code
def yX12_someComes : MethodName := ⟨RX12, "someComes", "(I)V"⟩
abbrev cX12_goes : ByteArray := prog_14_method_24_code
def yX12_goes : MethodName := ⟨RX12, "goes", "(I)V"⟩
abbrev cX12_towards : ByteArray := prog_14_method_25_code
def yX12_towards : MethodName := ⟨RX12, "towards", "(I)I"⟩
abbrev cX12_towardsBy : ByteArray := prog_14_method_26_code
def yX12_towardsBy : MethodName := ⟨RX12, "towardsBy", "(II)I"⟩
abbrev cX12_becomes : ByteArray := prog_14_method_27_code
def yX12_becomes : MethodName := ⟨RX12, "becomes", "(II)I"⟩
abbrev cX12_slack : ByteArray := prog_14_method_28_code
def yX12_slack : MethodName := ⟨RX12, "slack", "(I)I"⟩
abbrev cX12_harvest : ByteArray := prog_14_method_29_code
def yX12_harvest : MethodName := ⟨RX12, "harvest", "(I)I"⟩
abbrev cX12_isKnot : ByteArray := prog_14_method_30_code
def yX12_isKnot : MethodName := ⟨RX12, "isKnot", "(I)Z"⟩
abbrev cX12_knot : ByteArray := prog_14_method_31_code
def yX12_knot : MethodName := ⟨RX12, "knot", "(I)I"⟩
abbrev cX12_onRope : ByteArray := prog_14_method_32_code
def yX12_onRope : MethodName := ⟨RX12, "onRope", "()I"⟩
abbrev cX12_now : ByteArray := prog_14_method_33_code
def yX12_now : MethodName := ⟨RX12, "now", "(I)I"⟩
abbrev cX12_addsPerson : ByteArray := prog_14_method_34_code
def yX12_addsPerson : MethodName := ⟨RX12, "addsPerson", "(II)V"⟩
abbrev cX12_person : ByteArray := prog_14_method_35_code
def yX12_person : MethodName := ⟨RX12, "person", "(II)I"⟩
abbrev cX12_of : ByteArray := prog_14_method_36_code
def yX12_of : MethodName := ⟨RX12, "of", "(II)I"⟩
abbrev cX12_set : ByteArray := prog_14_method_37_code
def yX12_set : MethodName := ⟨RX12, "set", "(III)I"⟩
abbrev cX12_turn : ByteArray := prog_14_method_38_code
def yX12_turn : MethodName := ⟨RX12, "turn", "(II)I"⟩
abbrev cX12_as : ByteArray := prog_14_method_39_code
def yX12_as : MethodName := ⟨RX12, "as", "(II)I"⟩
abbrev cX12_mayRelieve : ByteArray := prog_14_method_40_code
def yX12_mayRelieve : MethodName := ⟨RX12, "mayRelieve", "(II)Z"⟩
abbrev cX12_relieves : ByteArray := prog_14_method_41_code
def yX12_relieves : MethodName := ⟨RX12, "relieves", "(II)V"⟩
abbrev cX12_relieve : ByteArray := prog_14_method_42_code
def yX12_relieve : MethodName := ⟨RX12, "relieve", "(II)I"⟩
abbrev cX12_days : ByteArray := prog_14_method_43_code
def yX12_days : MethodName := ⟨RX12, "days", "(I)I"⟩
abbrev cX12_on : ByteArray := prog_14_method_44_code
def yX12_on : MethodName := ⟨RX12, "on", "(II)I"⟩
abbrev cX12_then : ByteArray := prog_14_method_45_code
def yX12_then : MethodName := ⟨RX12, "then", "(III)I"⟩
abbrev cX12_wins : ByteArray := prog_14_method_46_code
def yX12_wins : MethodName := ⟨RX12, "wins", "(II)I"⟩
abbrev cX12_off : ByteArray := prog_14_method_47_code
def yX12_off : MethodName := ⟨RX12, "off", "(I)I"⟩
abbrev cX12_turns : ByteArray := prog_14_method_48_code
def yX12_turns : MethodName := ⟨RX12, "turns", "()I"⟩
abbrev cX12_spell : ByteArray := prog_14_method_49_code
def yX12_spell : MethodName := ⟨RX12, "spell", "(II)I"⟩
abbrev cX12_kind : ByteArray := prog_14_method_50_code
def yX12_kind : MethodName := ⟨RX12, "kind", "(II)I"⟩
abbrev cX12_week : ByteArray := prog_14_method_51_code
def yX12_week : MethodName := ⟨RX12, "week", "(II)I"⟩
abbrev cX12_strong : ByteArray := prog_14_method_52_code
def yX12_strong : MethodName := ⟨RX12, "strong", "(III)I"⟩
abbrev cX12_bears : ByteArray := prog_14_method_53_code
def yX12_bears : MethodName := ⟨RX12, "bears", "(II)I"⟩
abbrev cX12_ones : ByteArray := prog_14_method_54_code
def yX12_ones : MethodName := ⟨RX12, "ones", "(I)I"⟩
abbrev cX12_fewest : ByteArray := prog_14_method_55_code
def yX12_fewest : MethodName := ⟨RX12, "fewest", "(I)I"⟩
abbrev cX12_traitor : ByteArray := prog_14_method_56_code
def yX12_traitor : MethodName := ⟨RX12, "traitor", "(I)I"⟩
abbrev cX12_feed : ByteArray := prog_14_method_57_code
def yX12_feed : MethodName := ⟨RX12, "feed", "(II)I"⟩
abbrev cX12_wipe : ByteArray := prog_14_method_58_code
def yX12_wipe : MethodName := ⟨RX12, "wipe", "()I"⟩
abbrev cX12_isLetter : ByteArray := prog_14_method_59_code
def yX12_isLetter : MethodName := ⟨RX12, "isLetter", "(I)Z"⟩
abbrev cX12_isDigit : ByteArray := prog_14_method_60_code
def yX12_isDigit : MethodName := ⟨RX12, "isDigit", "(I)Z"⟩
abbrev cX12_nextToken : ByteArray := prog_14_method_61_code
def yX12_nextToken : MethodName := ⟨RX12, "nextToken", "()V"⟩
abbrev cX12_wordOf : ByteArray := prog_14_method_62_code
def yX12_wordOf : MethodName := ⟨RX12, "wordOf", "([C)I"⟩
abbrev cX12_takesNumber : ByteArray := prog_14_method_63_code
def yX12_takesNumber : MethodName := ⟨RX12, "takesNumber", "(II)I"⟩
abbrev cX12_readsPerson : ByteArray := prog_14_method_64_code
def yX12_readsPerson : MethodName := ⟨RX12, "readsPerson", "(I)Z"⟩
abbrev cX12_readsWeek : ByteArray := prog_14_method_65_code
def yX12_readsWeek : MethodName := ⟨RX12, "readsWeek", "(Z)Z"⟩
abbrev cX12_readsKnot : ByteArray := prog_14_method_66_code
def yX12_readsKnot : MethodName := ⟨RX12, "readsKnot", "()Z"⟩
abbrev cX12_readsItem : ByteArray := prog_14_method_67_code
def yX12_readsItem : MethodName := ⟨RX12, "readsItem", "()Z"⟩
abbrev cX12_green : ByteArray := prog_14_method_68_code
def yX12_green : MethodName := ⟨RX12, "green", "()I"⟩
abbrev cX12_isSheet : ByteArray := prog_14_method_69_code
def yX12_isSheet : MethodName := ⟨RX12, "isSheet", "(I)Z"⟩
abbrev cX12_wrongSheet : ByteArray := prog_14_method_70_code
def yX12_wrongSheet : MethodName := ⟨RX12, "wrongSheet", "(I)I"⟩
abbrev cX12_told : ByteArray := prog_14_method_71_code
def yX12_told : MethodName := ⟨RX12, "told", "(II)J"⟩
abbrev cX12_tells : ByteArray := prog_14_method_72_code
def yX12_tells : MethodName := ⟨RX12, "tells", "(IIJ)V"⟩
abbrev cX12_sheet : ByteArray := prog_14_method_73_code
def yX12_sheet : MethodName := ⟨RX12, "sheet", "(III)I"⟩
abbrev cX12_write : ByteArray := prog_14_method_74_code
def yX12_write : MethodName := ⟨RX12, "write", "(IIJ)J"⟩
abbrev cX12_copy : ByteArray := prog_14_method_75_code
def yX12_copy : MethodName := ⟨RX12, "copy", "(IIIII)I"⟩
abbrev cX12_lays : ByteArray := prog_14_method_76_code
def yX12_lays : MethodName := ⟨RX12, "lays", "(I)I"⟩
abbrev cX12_book : ByteArray := prog_14_method_77_code
def yX12_book : MethodName := ⟨RX12, "book", "(I)I"⟩
abbrev cX12_isSo : ByteArray := prog_14_method_78_code
def yX12_isSo : MethodName := ⟨RX12, "isSo", "(I)Z"⟩
abbrev cX12_read : ByteArray := prog_14_method_79_code
def yX12_read : MethodName := ⟨RX12, "read", "(II)I"⟩
abbrev cX12_image : ByteArray := prog_14_method_80_code
def yX12_image : MethodName := ⟨RX12, "image", "()I"⟩
abbrev cX12_undo : ByteArray := prog_14_method_81_code
def yX12_undo : MethodName := ⟨RX12, "undo", "()I"⟩
abbrev cX12_tear : ByteArray := prog_14_method_82_code
def yX12_tear : MethodName := ⟨RX12, "tear", "()I"⟩
abbrev cX12_count : ByteArray := prog_14_method_83_code
def yX12_count : MethodName := ⟨RX12, "count", "(I)I"⟩
abbrev cX12_status : ByteArray := prog_14_method_84_code
def yX12_status : MethodName := ⟨RX12, "status", "(I)I"⟩
def RJ6 : String := "java/lang/Integer"
abbrev cJ6_bitCount_0f7a4 : ByteArray := prog_15_method_49_code
def yJ6_bitCount_0f7a4 : MethodName := ⟨RJ6, "bitCount", "(I)I"⟩
def RJ9 : String := "java/lang/Math"
abbrev cJ9_abs_0f7a4 : ByteArray := prog_16_method_59_code
def yJ9_abs_0f7a4 : MethodName := ⟨RJ9, "abs", "(I)I"⟩
abbrev cJ9_max_7cf53 : ByteArray := prog_16_method_65_code
def yJ9_max_7cf53 : MethodName := ⟨RJ9, "max", "(II)I"⟩
abbrev cJ9_min_7cf53 : ByteArray := prog_16_method_69_code
def yJ9_min_7cf53 : MethodName := ⟨RJ9, "min", "(II)I"⟩
def RJ0 : String := "java/lang/String"
abbrev cJ0_length_8abf5 : ByteArray := prog_17_method_54_code
def yJ0_length_8abf5 : MethodName := ⟨RJ0, "length", "()I"⟩
abbrev cJ0_charAt_5068e : ByteArray := prog_17_method_56_code
def yJ0_charAt_5068e : MethodName := ⟨RJ0, "charAt", "(I)C"⟩
abbrev cJ0_coder_7d493 : ByteArray := prog_17_method_152_code
def yJ0_coder_7d493 : MethodName := ⟨RJ0, "coder", "()B"⟩
abbrev cJ0_isLatin1_aae02 : ByteArray := prog_17_method_154_code
def yJ0_isLatin1_aae02 : MethodName := ⟨RJ0, "isLatin1", "()Z"⟩
abbrev cJ0_checkIndex_df160 : ByteArray := prog_17_method_155_code
def yJ0_checkIndex_df160 : MethodName := ⟨RJ0, "checkIndex", "(II)V"⟩
def RJ1 : String := "java/lang/StringLatin1"
abbrev cJ1_charAt_3b067 : ByteArray := prog_18_method_2_code
def yJ1_charAt_3b067 : MethodName := ⟨RJ1, "charAt", "([BI)C"⟩
def RJ2 : String := "java/lang/StringUTF16"
abbrev cJ2_getChar_3b067 : ByteArray := prog_19_method_5_code
def yJ2_getChar_3b067 : MethodName := ⟨RJ2, "getChar", "([BI)C"⟩
abbrev cJ2_length_9d52b : ByteArray := prog_19_method_6_code
def yJ2_length_9d52b : MethodName := ⟨RJ2, "length", "([B)I"⟩
abbrev cJ2_charAt_3b067 : ByteArray := prog_19_method_83_code
def yJ2_charAt_3b067 : MethodName := ⟨RJ2, "charAt", "([BI)C"⟩
abbrev cJ2_checkIndex_2214a : ByteArray := prog_19_method_91_code
def yJ2_checkIndex_2214a : MethodName := ⟨RJ2, "checkIndex", "(I[B)V"⟩
def RJ10 : String := "java/lang/System"
def RJ7 : String := "java/util/Arrays"
abbrev cJ7_fill_d0a16 : ByteArray := prog_21_method_101_code
def yJ7_fill_d0a16 : MethodName := ⟨RJ7, "fill", "([JJ)V"⟩
def RJ3 : String := "jdk/internal/util/Preconditions"
abbrev cJ3_checkIndex_8e157 : ByteArray := prog_22_method_11_code
def yJ3_checkIndex_8e157 : MethodName := ⟨RJ3, "checkIndex", "(IILjava/util/function/BiFunction;)I"⟩
def RL : String := "EndlessTugLaw"
abbrev cL_law : ByteArray := code
def yL_law : MethodName := ⟨RL, "law", "([I)Z"⟩
abbrev MD : Type := MethodName × ByteArray × Nat × Option FieldType × Nat × Nat
def mX0_init : MD := (yX0_init, cX0_init, 1, none, 1, 20)
def mX0_clear : MD := (yX0_clear, cX0_clear, 1, none, 0, 0)
def mX0_offer : MD := (yX0_offer, cX0_offer, 3, none, 0, 0)
def mX1_init : MD := (yX1_init, cX1_init, 2, none, 2, 41)
def mX1_isOf : MD := (yX1_isOf, cX1_isOf, 2, (some .boolean), 1, 21)
def mX1_pull : MD := (yX1_pull, cX1_pull, 3, (some .int), 1, 23)
def mX1_tire : MD := (yX1_tire, cX1_tire, 2, (some .int), 1, 21)
def mX1_letsGo : MD := (yX1_letsGo, cX1_letsGo, 3, (some .boolean), 1, 22)
def mX2_init : MD := (yX2_init, cX2_init, 3, none, 4, 83)
def mX2_become : MD := (yX2_become, cX2_become, 3, none, 1, 21)
def mX2_has : MD := (yX2_has, cX2_has, 2, (some .boolean), 0, 0)
def mX2_isFull : MD := (yX2_isFull, cX2_isFull, 1, (some .boolean), 0, 0)
def mX2_addOne : MD := (yX2_addOne, cX2_addOne, 4, none, 2, 42)
def mX2_weekOfYear : MD := (yX2_weekOfYear, cX2_weekOfYear, 1, (some .int), 0, 0)
def mX2_isHarvest : MD := (yX2_isHarvest, cX2_isHarvest, 1, (some .boolean), 1, 20)
def mX2_isSunday : MD := (yX2_isSunday, cX2_isSunday, 1, (some .boolean), 0, 0)
def mX2_towards : MD := (yX2_towards, cX2_towards, 2, (some .int), 0, 0)
def mX2_sideAhead : MD := (yX2_sideAhead, cX2_sideAhead, 1, (some .int), 0, 0)
def mX2_setOn : MD := (yX2_setOn, cX2_setOn, 3, (some .int), 0, 0)
def mX2_setOff : MD := (yX2_setOff, cX2_setOff, 4, (some .int), 0, 0)
def mX2_pullOf : MD := (yX2_pullOf, cX2_pullOf, 5, (some .int), 3, 67)
def mX2_pullOfSet : MD := (yX2_pullOfSet, cX2_pullOfSet, 4, (some .int), 3, 67)
def mX2_sizeOf : MD := (yX2_sizeOf, cX2_sizeOf, 4, (some .int), 0, 0)
def mX2_tiredTogether : MD := (yX2_tiredTogether, cX2_tiredTogether, 3, (some .int), 0, 0)
def mX2_canSwap : MD := (yX2_canSwap, cX2_canSwap, 5, (some .boolean), 1, 21)
def mX2_swap : MD := (yX2_swap, cX2_swap, 3, none, 2, 45)
def mX2_go : MD := (yX2_go, cX2_go, 3, none, 5, 115)
def mX2_goDay : MD := (yX2_goDay, cX2_goDay, 5, none, 4, 91)
def mX2_leadOfChapel : MD := (yX2_leadOfChapel, cX2_leadOfChapel, 5, (some .int), 3, 67)
def mX2_moveKnot : MD := (yX2_moveKnot, cX2_moveKnot, 2, none, 1, 21)
def mX2_callOut : MD := (yX2_callOut, cX2_callOut, 5, none, 0, 0)
def mX2_goesAs : MD := (yX2_goesAs, cX2_goesAs, 3, (some .boolean), 5, 115)
def mX3_init : MD := (yX3_init, cX3_init, 2, none, 1, 20)
def mX3_isOf : MD := (yX3_isOf, cX3_isOf, 2, (some .boolean), 0, 0)
def mX3_pull : MD := (yX3_pull, cX3_pull, 4, (some .int), 0, 0)
def mX3_tire : MD := (yX3_tire, cX3_tire, 2, (some .int), 0, 0)
def mX3_letsGo : MD := (yX3_letsGo, cX3_letsGo, 3, (some .boolean), 0, 0)
def mX4_init : MD := (yX4_init, cX4_init, 2, none, 1, 20)
def mX4_become : MD := (yX4_become, cX4_become, 2, none, 0, 0)
def mX4_spendDay : MD := (yX4_spendDay, cX4_spendDay, 3, none, 3, 66)
def mX5_init : MD := (yX5_init, cX5_init, 2, none, 3, 62)
def mX5_isOf : MD := (yX5_isOf, cX5_isOf, 2, (some .boolean), 2, 42)
def mX5_pull : MD := (yX5_pull, cX5_pull, 3, (some .int), 2, 45)
def mX5_tire : MD := (yX5_tire, cX5_tire, 2, (some .int), 2, 42)
def mX6_init : MD := (yX6_init, cX6_init, 1, none, 1, 20)
def mX6_isMissing : MD := (yX6_isMissing, cX6_isMissing, 1, (some .boolean), 0, 0)
def mX6_begin : MD := (yX6_begin, cX6_begin, 3, none, 1, 24)
def mX6_holds : MD := (yX6_holds, cX6_holds, 3, (some .boolean), 0, 0)
def mX6_put : MD := (yX6_put, cX6_put, 4, none, 0, 0)
def mX7_init : MD := (yX7_init, cX7_init, 2, none, 2, 41)
def mX7_isOf : MD := (yX7_isOf, cX7_isOf, 2, (some .boolean), 1, 21)
def mX7_pull : MD := (yX7_pull, cX7_pull, 3, (some .int), 1, 23)
def mX7_tire : MD := (yX7_tire, cX7_tire, 2, (some .int), 1, 21)
def mX7_letsGo : MD := (yX7_letsGo, cX7_letsGo, 3, (some .boolean), 0, 0)
def mX8_init : MD := (yX8_init, cX8_init, 2, none, 3, 62)
def mX8_isOf : MD := (yX8_isOf, cX8_isOf, 2, (some .boolean), 2, 42)
def mX8_pull : MD := (yX8_pull, cX8_pull, 3, (some .int), 2, 45)
def mX8_tire : MD := (yX8_tire, cX8_tire, 2, (some .int), 2, 42)
def mX8_letsGo : MD := (yX8_letsGo, cX8_letsGo, 3, (some .boolean), 2, 44)
def mX9_init : MD := (yX9_init, cX9_init, 1, none, 1, 20)
def mX9_add : MD := (yX9_add, cX9_add, 2, none, 0, 0)
def mX9_tell : MD := (yX9_tell, cX9_tell, 3, (some .int), 9, 195)
def mX9_takeItem : MD := (yX9_takeItem, cX9_takeItem, 3, (some .boolean), 8, 173)
def mX9_takePerson : MD := (yX9_takePerson, cX9_takePerson, 5, (some .boolean), 7, 149)
def mX9_takeWeek : MD := (yX9_takeWeek, cX9_takeWeek, 3, (some .boolean), 3, 64)
def mX9_takeKnot : MD := (yX9_takeKnot, cX9_takeKnot, 3, (some .boolean), 7, 149)
def mX9_takeSlack : MD := (yX9_takeSlack, cX9_takeSlack, 2, (some .boolean), 3, 64)
def mX9_takeSide : MD := (yX9_takeSide, cX9_takeSide, 2, (some .int), 6, 128)
def mX9_takeWord : MD := (yX9_takeWord, cX9_takeWord, 2, (some .boolean), 6, 128)
def mX9_takeNumber : MD := (yX9_takeNumber, cX9_takeNumber, 5, (some .boolean), 2, 40)
def mX9_kindNamed : MD := (yX9_kindNamed, cX9_kindNamed, 1, (some .int), 6, 128)
def mX9_isWord : MD := (yX9_isWord, cX9_isWord, 3, (some .boolean), 5, 106)
def mX9_lookAtNext : MD := (yX9_lookAtNext, cX9_lookAtNext, 1, none, 1, 20)
def mX9_sortOf : MD := (yX9_sortOf, cX9_sortOf, 1, (some .int), 0, 0)
def mX10_init : MD := (yX10_init, cX10_init, 2, none, 2, 41)
def mX10_isOf : MD := (yX10_isOf, cX10_isOf, 2, (some .boolean), 1, 21)
def mX10_pull : MD := (yX10_pull, cX10_pull, 3, (some .int), 2, 40)
def mX10_tire : MD := (yX10_tire, cX10_tire, 2, (some .int), 0, 0)
def mX10_letsGo : MD := (yX10_letsGo, cX10_letsGo, 3, (some .boolean), 2, 40)
def mX11_init : MD := (yX11_init, cX11_init, 2, none, 5, 105)
def mX11_slack : MD := (yX11_slack, cX11_slack, 3, (some .int), 1, 22)
def mX11_harvest : MD := (yX11_harvest, cX11_harvest, 3, (some .int), 1, 22)
def mX11_knot : MD := (yX11_knot, cX11_knot, 3, (some .int), 1, 22)
def mX11_now : MD := (yX11_now, cX11_now, 2, (some .int), 4, 91)
def mX11_person : MD := (yX11_person, cX11_person, 4, (some .int), 3, 65)
def mX11_of : MD := (yX11_of, cX11_of, 4, (some .int), 3, 67)
def mX11_set : MD := (yX11_set, cX11_set, 6, (some .int), 1, 22)
def mX11_turn : MD := (yX11_turn, cX11_turn, 5, (some .int), 2, 42)
def mX11_as : MD := (yX11_as, cX11_as, 4, (some .int), 3, 63)
def mX11_relieve : MD := (yX11_relieve, cX11_relieve, 3, (some .int), 3, 67)
def mX11_days : MD := (yX11_days, cX11_days, 2, (some .int), 6, 137)
def mX11_on : MD := (yX11_on, cX11_on, 3, (some .int), 6, 137)
def mX11_then : MD := (yX11_then, cX11_then, 5, (some .int), 6, 137)
def mX11_wins : MD := (yX11_wins, cX11_wins, 4, (some .int), 5, 115)
def mX11_off : MD := (yX11_off, cX11_off, 3, (some .int), 5, 115)
def mX11_turns : MD := (yX11_turns, cX11_turns, 2, (some .int), 5, 115)
def mX11_spell : MD := (yX11_spell, cX11_spell, 5, (some .int), 6, 137)
def mX11_kind : MD := (yX11_kind, cX11_kind, 5, (some .int), 6, 137)
def mX11_week : MD := (yX11_week, cX11_week, 4, (some .int), 6, 137)
def mX11_strong : MD := (yX11_strong, cX11_strong, 6, (some .int), 6, 137)
def mX11_bears : MD := (yX11_bears, cX11_bears, 4, (some .int), 6, 137)
def mX11_fewest : MD := (yX11_fewest, cX11_fewest, 6, (some .int), 4, 91)
def mX11_traitor : MD := (yX11_traitor, cX11_traitor, 4, (some .int), 6, 137)
def mX11_feed : MD := (yX11_feed, cX11_feed, 4, (some .int), 1, 22)
def mX11_wipe : MD := (yX11_wipe, cX11_wipe, 2, (some .int), 0, 0)
def mX11_green : MD := (yX11_green, cX11_green, 2, (some .int), 10, 217)
def mX11_sheet : MD := (yX11_sheet, cX11_sheet, 5, (some .int), 2, 46)
def mX11_write : MD := (yX11_write, cX11_write, 8, (some .long), 2, 42)
def mX11_copy : MD := (yX11_copy, cX11_copy, 8, (some .int), 2, 60)
def mX11_lays : MD := (yX11_lays, cX11_lays, 7, (some .int), 2, 42)
def mX11_book : MD := (yX11_book, cX11_book, 4, (some .int), 5, 115)
def mX11_read : MD := (yX11_read, cX11_read, 7, (some .int), 6, 137)
def mX11_image : MD := (yX11_image, cX11_image, 1, (some .int), 2, 43)
def mX11_undo : MD := (yX11_undo, cX11_undo, 1, (some .int), 2, 43)
def mX11_tear : MD := (yX11_tear, cX11_tear, 2, (some .int), 0, 0)
def mX11_count : MD := (yX11_count, cX11_count, 2, (some .int), 1, 23)
def mX11_status : MD := (yX11_status, cX11_status, 4, (some .int), 1, 22)
def mX11_finding : MD := (yX11_finding, cX11_finding, 3, (some .int), 0, 0)
def mX11_bestOrNone : MD := (yX11_bestOrNone, cX11_bestOrNone, 1, (some .int), 1, 22)
def mX11_isWithin : MD := (yX11_isWithin, cX11_isWithin, 3, (some .boolean), 0, 0)
def mX11_isKind : MD := (yX11_isKind, cX11_isKind, 1, (some .boolean), 1, 22)
def mX11_isSide : MD := (yX11_isSide, cX11_isSide, 1, (some .boolean), 0, 0)
def mX11_isSheet : MD := (yX11_isSheet, cX11_isSheet, 1, (some .boolean), 1, 22)
def mX12_init : MD := (yX12_init, cX12_init, 1, none, 1, 20)
def mX12_no : MD := (yX12_no, cX12_no, 2, (some .int), 0, 0)
def mX12_in1 : MD := (yX12_in1, cX12_in1, 3, (some .boolean), 0, 0)
def mX12_isPerson : MD := (yX12_isPerson, cX12_isPerson, 2, (some .boolean), 1, 22)
def mX12_isSide : MD := (yX12_isSide, cX12_isSide, 1, (some .boolean), 1, 22)
def mX12_get : MD := (yX12_get, cX12_get, 3, (some .int), 0, 0)
def mX12_puts : MD := (yX12_puts, cX12_puts, 4, none, 0, 0)
def mX12_setsAside : MD := (yX12_setsAside, cX12_setsAside, 2, none, 0, 0)
def mX12_laysBack : MD := (yX12_laysBack, cX12_laysBack, 2, none, 0, 0)
def mX12_isSunday : MD := (yX12_isSunday, cX12_isSunday, 1, (some .boolean), 0, 0)
def mX12_weekNow : MD := (yX12_weekNow, cX12_weekNow, 1, (some .int), 0, 0)
def mX12_isHarvest : MD := (yX12_isHarvest, cX12_isHarvest, 1, (some .boolean), 1, 20)
def mX12_aheadNow : MD := (yX12_aheadNow, cX12_aheadNow, 1, (some .int), 0, 0)
def mX12_pullsOf : MD := (yX12_pullsOf, cX12_pullsOf, 4, (some .int), 2, 40)
def mX12_tiresOf : MD := (yX12_tiresOf, cX12_tiresOf, 3, (some .int), 1, 22)
def mX12_letsGo : MD := (yX12_letsGo, cX12_letsGo, 3, (some .boolean), 2, 40)
def mX12_sidePulls : MD := (yX12_sidePulls, cX12_sidePulls, 4, (some .int), 3, 63)
def mX12_held : MD := (yX12_held, cX12_held, 3, (some .int), 0, 0)
def mX12_knotGoes : MD := (yX12_knotGoes, cX12_knotGoes, 4, none, 4, 86)
def mX12_livesOn : MD := (yX12_livesOn, cX12_livesOn, 2, none, 3, 62)
def mX12_someComes : MD := (yX12_someComes, cX12_someComes, 4, none, 1, 23)
def mX12_goes : MD := (yX12_goes, cX12_goes, 4, none, 5, 109)
def mX12_towards : MD := (yX12_towards, cX12_towards, 2, (some .int), 0, 0)
def mX12_towardsBy : MD := (yX12_towardsBy, cX12_towardsBy, 4, (some .int), 6, 132)
def mX12_becomes : MD := (yX12_becomes, cX12_becomes, 4, (some .int), 0, 0)
def mX12_slack : MD := (yX12_slack, cX12_slack, 2, (some .int), 1, 23)
def mX12_harvest : MD := (yX12_harvest, cX12_harvest, 2, (some .int), 1, 23)
def mX12_isKnot : MD := (yX12_isKnot, cX12_isKnot, 1, (some .boolean), 1, 22)
def mX12_knot : MD := (yX12_knot, cX12_knot, 2, (some .int), 2, 42)
def mX12_onRope : MD := (yX12_onRope, cX12_onRope, 3, (some .int), 1, 22)
def mX12_now : MD := (yX12_now, cX12_now, 2, (some .int), 4, 86)
def mX12_addsPerson : MD := (yX12_addsPerson, cX12_addsPerson, 4, none, 1, 23)
def mX12_person : MD := (yX12_person, cX12_person, 3, (some .int), 2, 46)
def mX12_of : MD := (yX12_of, cX12_of, 3, (some .int), 3, 63)
def mX12_set : MD := (yX12_set, cX12_set, 6, (some .int), 2, 43)
def mX12_turn : MD := (yX12_turn, cX12_turn, 4, (some .int), 2, 43)
def mX12_as : MD := (yX12_as, cX12_as, 4, (some .int), 2, 43)
def mX12_mayRelieve : MD := (yX12_mayRelieve, cX12_mayRelieve, 3, (some .boolean), 1, 22)
def mX12_relieves : MD := (yX12_relieves, cX12_relieves, 3, none, 1, 23)
def mX12_relieve : MD := (yX12_relieve, cX12_relieve, 3, (some .int), 2, 45)
def mX12_days : MD := (yX12_days, cX12_days, 2, (some .int), 6, 132)
def mX12_on : MD := (yX12_on, cX12_on, 4, (some .int), 6, 132)
def mX12_then : MD := (yX12_then, cX12_then, 5, (some .int), 6, 132)
def mX12_wins : MD := (yX12_wins, cX12_wins, 4, (some .int), 6, 132)
def mX12_off : MD := (yX12_off, cX12_off, 3, (some .int), 6, 132)
def mX12_turns : MD := (yX12_turns, cX12_turns, 3, (some .int), 6, 132)
def mX12_spell : MD := (yX12_spell, cX12_spell, 8, (some .int), 7, 155)
def mX12_kind : MD := (yX12_kind, cX12_kind, 8, (some .int), 7, 155)
def mX12_week : MD := (yX12_week, cX12_week, 8, (some .int), 7, 155)
def mX12_strong : MD := (yX12_strong, cX12_strong, 5, (some .int), 7, 155)
def mX12_bears : MD := (yX12_bears, cX12_bears, 5, (some .int), 6, 132)
def mX12_ones : MD := (yX12_ones, cX12_ones, 3, (some .int), 0, 0)
def mX12_fewest : MD := (yX12_fewest, cX12_fewest, 9, (some .int), 4, 86)
def mX12_traitor : MD := (yX12_traitor, cX12_traitor, 7, (some .int), 7, 155)
def mX12_feed : MD := (yX12_feed, cX12_feed, 4, (some .int), 1, 22)
def mX12_wipe : MD := (yX12_wipe, cX12_wipe, 2, (some .int), 0, 0)
def mX12_isLetter : MD := (yX12_isLetter, cX12_isLetter, 1, (some .boolean), 1, 22)
def mX12_isDigit : MD := (yX12_isDigit, cX12_isDigit, 1, (some .boolean), 1, 22)
def mX12_nextToken : MD := (yX12_nextToken, cX12_nextToken, 1, none, 2, 42)
def mX12_wordOf : MD := (yX12_wordOf, cX12_wordOf, 7, (some .int), 0, 0)
def mX12_takesNumber : MD := (yX12_takesNumber, cX12_takesNumber, 4, (some .int), 3, 62)
def mX12_readsPerson : MD := (yX12_readsPerson, cX12_readsPerson, 5, (some .boolean), 4, 85)
def mX12_readsWeek : MD := (yX12_readsWeek, cX12_readsWeek, 3, (some .boolean), 4, 85)
def mX12_readsKnot : MD := (yX12_readsKnot, cX12_readsKnot, 3, (some .boolean), 4, 85)
def mX12_readsItem : MD := (yX12_readsItem, cX12_readsItem, 4, (some .boolean), 5, 109)
def mX12_green : MD := (yX12_green, cX12_green, 3, (some .int), 6, 132)
def mX12_isSheet : MD := (yX12_isSheet, cX12_isSheet, 1, (some .boolean), 1, 22)
def mX12_wrongSheet : MD := (yX12_wrongSheet, cX12_wrongSheet, 2, (some .int), 2, 42)
def mX12_told : MD := (yX12_told, cX12_told, 3, (some .long), 0, 0)
def mX12_tells : MD := (yX12_tells, cX12_tells, 5, none, 0, 0)
def mX12_sheet : MD := (yX12_sheet, cX12_sheet, 5, (some .int), 2, 42)
def mX12_write : MD := (yX12_write, cX12_write, 8, (some .long), 3, 63)
def mX12_copy : MD := (yX12_copy, cX12_copy, 7, (some .int), 2, 42)
def mX12_lays : MD := (yX12_lays, cX12_lays, 5, (some .int), 3, 63)
def mX12_book : MD := (yX12_book, cX12_book, 4, (some .int), 6, 132)
def mX12_isSo : MD := (yX12_isSo, cX12_isSo, 4, (some .boolean), 6, 132)
def mX12_read : MD := (yX12_read, cX12_read, 7, (some .int), 7, 155)
def mX12_image : MD := (yX12_image, cX12_image, 2, (some .int), 0, 0)
def mX12_undo : MD := (yX12_undo, cX12_undo, 2, (some .int), 1, 21)
def mX12_tear : MD := (yX12_tear, cX12_tear, 2, (some .int), 0, 0)
def mX12_count : MD := (yX12_count, cX12_count, 5, (some .int), 1, 22)
def mX12_status : MD := (yX12_status, cX12_status, 4, (some .int), 1, 22)
def mJ6_bitCount_0f7a4 : MD := (yJ6_bitCount_0f7a4, cJ6_bitCount_0f7a4, 1, (some .int), 0, 0)
def mJ9_abs_0f7a4 : MD := (yJ9_abs_0f7a4, cJ9_abs_0f7a4, 1, (some .int), 0, 0)
def mJ9_max_7cf53 : MD := (yJ9_max_7cf53, cJ9_max_7cf53, 2, (some .int), 0, 0)
def mJ9_min_7cf53 : MD := (yJ9_min_7cf53, cJ9_min_7cf53, 2, (some .int), 0, 0)
def mJ0_length_8abf5 : MD := (yJ0_length_8abf5, cJ0_length_8abf5, 1, (some .int), 1, 20)
def mJ0_charAt_5068e : MD := (yJ0_charAt_5068e, cJ0_charAt_5068e, 2, (some .char), 4, 85)
def mJ0_coder_7d493 : MD := (yJ0_coder_7d493, cJ0_coder_7d493, 1, (some .byte), 0, 0)
def mJ0_isLatin1_aae02 : MD := (yJ0_isLatin1_aae02, cJ0_isLatin1_aae02, 1, (some .boolean), 0, 0)
def mJ0_checkIndex_df160 : MD := (yJ0_checkIndex_df160, cJ0_checkIndex_df160, 2, none, 1, 22)
def mJ1_charAt_3b067 : MD := (yJ1_charAt_3b067, cJ1_charAt_3b067, 2, (some .char), 2, 43)
def mJ2_getChar_3b067 : MD := (yJ2_getChar_3b067, cJ2_getChar_3b067, 2, (some .char), 1, 20)
def mJ2_length_9d52b : MD := (yJ2_length_9d52b, cJ2_length_9d52b, 1, (some .int), 0, 0)
def mJ2_charAt_3b067 : MD := (yJ2_charAt_3b067, cJ2_charAt_3b067, 2, (some .char), 3, 64)
def mJ2_checkIndex_2214a : MD := (yJ2_checkIndex_2214a, cJ2_checkIndex_2214a, 2, none, 2, 43)
def mJ7_fill_d0a16 : MD := (yJ7_fill_d0a16, cJ7_fill_d0a16, 5, none, 0, 0)
def mJ3_checkIndex_8e157 : MD := (yJ3_checkIndex_8e157, cJ3_checkIndex_8e157, 3, (some .int), 0, 0)
def mL_law : MD := (yL_law, cL_law, 4, (some .boolean), 13, 482)
end
section
/-! THE ABSTRACT MACHINE, 1: memory, pictures, the judgement.
A method is an MD (name, bytes, locals, return type, frames and words of room below it). References are places 0, 1, .. in the order of making
(the address of place i is base + i); places 400 .. are the String constants, 450 .. their bytes, 499 a static of the JDK's, 999 the script. -/
theorem mem_filter0 {l : List Cond} {w : Cond} (h : w ∈ l) (g : goodWord w = true) : w ∈ l.filter goodWord := List.mem_filter.mpr ⟨h, g⟩
def ws0 : List Cond := lw_tbl.filter goodWord
theorem ws0_mem {w : Cond} (h : w ∈ lw_tbl) (g : goodWord w = true) : w ∈ ws0 := mem_filter0 h g
theorem ws0_in {w : Cond} (h : w ∈ ws0) : w ∈ lw_tbl := (List.mem_filter.mp h).1
theorem ws0_good {w : Cond} (h : w ∈ ws0) : goodWord w = true := (List.mem_filter.mp h).2
def cdW (M : MD) : Cond := .code M.1 M.2.1 M.2.2.1 M.2.2.2.1
def wsM (M : MD) : List Cond := cdW M :: ws0
theorem goodIn0 {M : MD} (h : cdW M ∈ ws0) : GoodIn ws0 (wsM M) := by
  intro w hw
  rcases List.mem_cons.mp hw with rfl | hw
  · exact ⟨h, good_of_word (ws0_good h)⟩
  · exact ⟨hw, good_of_word (ws0_good hw)⟩
abbrev kd : Type := Nat ⊕ (Nat × Nat)
abbrev Mem : Type := (Nat → Nat → Int32) × (Nat → Nat → Int64) × (Nat → Nat → Option Nat)
/-- addresses of places, array classes, object classes, base -/
abbrev GT : Type := (Nat → Nat) × (Nat → ClassId) × va_G × Nat
/-- the script: its length and ints -/
abbrev SCR : Type := Nat × (Nat → Int32)
abbrev cls13 : List vw_C := [(RX0, TX0, 3), (RX1, TX1, 1), (RX2, TX2, 7), (RX3, TX3, 1), (RX4, TX4, 5), (RX5, TX5, 1), (RX6, TX6, 3), (RX7, TX7, 1), (RX8, TX8, 1), (RX9, TX9, 6), (RX10, TX10, 1), (RX11, TX11, 8), (RX12, TX12, 19)]
def tyF (ci : Nat) : Nat → FieldType := match ci with
  | 0 => tyX0 | 1 => tyX1 | 2 => tyX2 | 3 => tyX3 | 4 => tyX4 | 5 => tyX5 | 6 => tyX6 | 7 => tyX7 | 8 => tyX8 | 9 => tyX9 | 10 => tyX10 | 11 => tyX11 | _ => tyX12
def nF (ci : Nat) : Nat := match ci with
  | 0 => 3 | 1 => 1 | 2 => 7 | 3 => 1 | 4 => 5 | 5 => 1 | 6 => 3 | 7 => 1 | 8 => 1 | 9 => 6 | 10 => 1 | 11 => 8 | _ => 19
/-- 0: held as an int, 1: as a long, 2: a reference -/
def ftc (t : FieldType) : Nat := match t with
  | .long => 1 | .object _ => 2 | .array _ => 2 | _ => 0
def tyl (dA : Nat → ClassId) : List (ClassId × FieldType) := [(dA 0, .int), (dA 1, .long), (dA 2, .char), (dA 3, .object "EndlessTug$Man"), (dA 4, .object "EndlessTug$Person"), (dA 5, .object "EndlessTug$Sheet")]
def cv (ad : Nat → Nat) (v : Value) : Value := match v with
  | .ref q => .ref (ad q)
  | v => v
def fv (ad : Nat → Nat) (t : Nat) (μ : Mem) (p k : Nat) : Value := match t with
  | 0 => .int (μ.1 p k)
  | 1 => .long (μ.2.1 p k)
  | _ => va_rf ((μ.2.2 p k).map ad)
def fls (ad : Nat → Nat) (ci : Nat) (μ : Mem) (p : Nat) : List Value := (List.range (nF ci)).map (fun k => fv ad (ftc (tyF ci k)) μ p k)
def arrC (ad : Nat → Nat) (t : Nat) (μ : Mem) (p : Nat) : (Nat → Int32) ⊕ (Nat → Int64) ⊕ (Nat → UInt32) ⊕ (Nat → UInt64) ⊕ (Nat → Option Nat) := match t with
  | 0 => .inl (μ.1 p)
  | 1 => .inr (.inl (μ.2.1 p))
  | 2 => .inl (μ.1 p)
  | _ => .inr (.inr (.inr (.inr (fun k => (μ.2.2 p k).map ad))))
def cellE (G : GT) (k : kd) (μ : Mem) (p : Nat) : va_E := match k with
  | .inl ci => .inr (ci, fls G.1 ci μ p)
  | .inr (t, n) => .inl (G.2.1 t, n, arrC G.1 t μ p)
def wl (G : GT) (K : List kd) (μ : Mem) : va_W := (List.range K.length).map (fun i => (G.1 i, cellE G (K.getD i (.inl 0)) μ i))
theorem wl_get {G : GT} {K : List kd} {μ : Mem} {p : Nat} {k : kd} (h : K[p]? = some k) : (wl G K μ)[p]? = some (G.1 p, cellE G k μ p) := by
  have hp : p < K.length := (List.getElem?_eq_some_iff.mp h).1
  have hg : K.getD p (.inl 0) = k := by rw [List.getD_eq_getElem?_getD, h]; rfl
  simp only [wl, List.getElem?_map, List.getElem?_range hp, Option.map_some, hg]
theorem wl_len (G : GT) (K : List kd) (μ : Mem) : (wl G K μ).length = K.length := by simp [wl]
theorem wl_at {G : GT} {K : List kd} {μ : Mem} {p : Nat} {q : Nat × va_E} (h : (wl G K μ)[p]? = some q) : p < K.length ∧ q = (G.1 p, cellE G (K.getD p (.inl 0)) μ p) := by
  have hp : p < K.length := by
    have := (List.getElem?_eq_some_iff.mp h).1
    rwa [wl_len] at this
  refine ⟨hp, ?_⟩
  rw [wl_get (List.getElem?_eq_getElem hp)] at h
  rw [List.getD_eq_getElem?_getD, List.getElem?_eq_getElem hp]
  exact (Option.some.inj h).symm
theorem wl_set {G : GT} {K : List kd} {μ μ' : Mem} {p : Nat} {k : kd} {e : va_E} (h : K[p]? = some k) (he : cellE G k μ' p = e) (ho : ∀ q, q ≠ p → ∀ k, cellE G k μ' q = cellE G k μ q) : (wl G K μ).set p (G.1 p, e) = wl G K μ' := by
  have hp : p < K.length := (List.getElem?_eq_some_iff.mp h).1
  have hg : K.getD p (.inl 0) = k := by rw [List.getD_eq_getElem?_getD, h]; rfl
  apply List.ext_getElem?
  intro i
  rw [List.getElem?_set]
  by_cases hi : p = i
  · subst hi
    rw [if_pos rfl, if_pos (by rw [wl_len]; exact hp), wl_get h, he]
  · rw [if_neg hi]
    simp only [wl, List.getElem?_map]
    by_cases hl : i < K.length
    · rw [List.getElem?_range hl]
      simp [ho i (fun z => hi z.symm)]
    · rw [List.getElem?_eq_none (by simpa using hl)]
      rfl
theorem wl_push {G : GT} {K : List kd} {μ μ' : Mem} {k : kd} (ho : ∀ q, q ≠ K.length → ∀ k, cellE G k μ' q = cellE G k μ q) : wl G (K ++ [k]) μ' = wl G K μ ++ [(G.1 K.length, cellE G k μ' K.length)] := by
  simp only [wl, List.length_append, List.length_singleton, List.range_succ, List.map_append, List.map_cons, List.map_nil]
  congr 1
  · apply List.map_congr_left
    intro i hi
    have hi := List.mem_range.mp hi
    rw [List.getD_eq_getElem?_getD, List.getElem?_append_left hi, ho i (Nat.ne_of_lt hi), List.getD_eq_getElem?_getD]
  · rw [List.getD_eq_getElem?_getD, List.getElem?_append_right (Nat.le_refl _)]
    simp
def pI (μ : Mem) (p k : Nat) (v : Int32) : Mem := (va_up μ.1 p (upd (μ.1 p) k v), μ.2)
def pJ (μ : Mem) (p k : Nat) (v : Int64) : Mem := (μ.1, va_up μ.2.1 p (vp_updL (μ.2.1 p) k v), μ.2.2)
def pR (μ : Mem) (p k : Nat) (v : Option Nat) : Mem := (μ.1, μ.2.1, va_up μ.2.2 p (va_up (μ.2.2 p) k v))
def pRow (μ : Mem) (p : Nat) (f : Nat → Int64) : Mem := (μ.1, va_up μ.2.1 p f, μ.2.2)
def p0 (μ : Mem) (p : Nat) : Mem := (va_up μ.1 p (fun _ => 0), va_up μ.2.1 p (fun _ => 0), va_up μ.2.2 p (fun _ => none))
theorem cell_row {G : GT} {μ μ' : Mem} {q : Nat} (h1 : μ'.1 q = μ.1 q) (h2 : μ'.2.1 q = μ.2.1 q) (h3 : μ'.2.2 q = μ.2.2 q) (k : kd) : cellE G k μ' q = cellE G k μ q := by
  cases k with
  | inl ci => simp only [cellE, fls, fv, h1, h2, h3]
  | inr a => simp only [cellE, arrC, h1, h2, h3]
theorem cell_pI {G : GT} (μ : Mem) {p q : Nat} (k : Nat) (v : Int32) (h : q ≠ p) (c : kd) : cellE G c (pI μ p k v) q = cellE G c μ q := cell_row (μ := μ) (μ' := (pI μ p k v)) (va_up_ne _ _ h) rfl rfl c
theorem cell_pJ {G : GT} (μ : Mem) {p q : Nat} (k : Nat) (v : Int64) (h : q ≠ p) (c : kd) : cellE G c (pJ μ p k v) q = cellE G c μ q := cell_row (μ := μ) (μ' := (pJ μ p k v)) rfl (va_up_ne _ _ h) rfl c
theorem cell_pR {G : GT} (μ : Mem) {p q : Nat} (k : Nat) (v : Option Nat) (h : q ≠ p) (c : kd) : cellE G c (pR μ p k v) q = cellE G c μ q := cell_row (μ := μ) (μ' := (pR μ p k v)) rfl rfl (va_up_ne _ _ h) c
theorem cell_pRow {G : GT} (μ : Mem) {p q : Nat} (f : Nat → Int64) (h : q ≠ p) (c : kd) : cellE G c (pRow μ p f) q = cellE G c μ q := cell_row (μ := μ) (μ' := (pRow μ p f)) rfl (va_up_ne _ _ h) rfl c
theorem cell_p0 {G : GT} (μ : Mem) {p q : Nat} (h : q ≠ p) (c : kd) : cellE G c (p0 μ p) q = cellE G c μ q := cell_row (μ := μ) (μ' := (p0 μ p)) (va_up_ne _ _ h) (va_up_ne _ _ h) (va_up_ne _ _ h) c
theorem fls_get {ad : Nat → Nat} {ci k : Nat} {μ : Mem} {p : Nat} (h : k < nF ci) : (fls ad ci μ p)[k]? = some (fv ad (ftc (tyF ci k)) μ p k) := by
  simp [fls, h]
theorem fls_len {ad : Nat → Nat} {ci : Nat} {μ : Mem} {p : Nat} : (fls ad ci μ p).length = nF ci := by simp [fls]
theorem fls_set {ad : Nat → Nat} {ci k : Nat} {μ μ' : Mem} {p : Nat} {v : Value} (hk : k < nF ci) (hv : fv ad (ftc (tyF ci k)) μ' p k = v) (ho : ∀ j, j ≠ k → fv ad (ftc (tyF ci j)) μ' p j = fv ad (ftc (tyF ci j)) μ p j) : (fls ad ci μ p).set k v = fls ad ci μ' p := by
  apply List.ext_getElem?
  intro i
  rw [List.getElem?_set]
  by_cases hi : k = i
  · subst hi
    rw [if_pos rfl, if_pos (by rw [fls_len]; exact hk), fls_get hk, hv]
  · rw [if_neg hi]
    simp only [fls, List.getElem?_map]
    by_cases hl : i < nF ci
    · rw [List.getElem?_range hl]
      simp [ho i (fun z => hi z.symm)]
    · rw [List.getElem?_eq_none (by simpa using hl)]
      rfl
theorem fls_pI {ad : Nat → Nat} {ci k : Nat} {μ : Mem} {p : Nat} {v : Int32} (hk : k < nF ci) (ht : ftc (tyF ci k) = 0) : (fls ad ci μ p).set k (.int v) = fls ad ci (pI μ p k v) p := by
  refine fls_set hk (by rw [ht]; simp [fv, pI, va_up, upd]) (fun j hj => ?_)
  simp [fv, pI, va_up, upd, hj]
theorem fls_pJ {ad : Nat → Nat} {ci k : Nat} {μ : Mem} {p : Nat} {v : Int64} (hk : k < nF ci) (ht : ftc (tyF ci k) = 1) : (fls ad ci μ p).set k (.long v) = fls ad ci (pJ μ p k v) p := by
  refine fls_set hk (by rw [ht]; simp [fv, pJ, va_up, vp_updL]) (fun j hj => ?_)
  simp [fv, pJ, va_up, vp_updL, hj]
theorem fls_pR {ad : Nat → Nat} {ci k : Nat} {μ : Mem} {p q : Nat} (hk : k < nF ci) (ht : ftc (tyF ci k) = 2) : (fls ad ci μ p).set k (.ref (ad q)) = fls ad ci (pR μ p k (some q)) p := by
  refine fls_set hk (by rw [ht]; simp [fv, pR, va_up, va_rf]) (fun j hj => ?_)
  simp [fv, pR, va_up, hj]
end
section
/-! THE ABSTRACT MACHINE, 2: what stays (String constants, statics, the script), the state of the world, the judgement AW and the call AM -/
def sIdx : List Nat := [116, 118, 120, 122, 124, 126, 109, 114, 82, 95, 99, 43, 52, 54, 59]
def sTxt : List String := ["man", "son", "drinker", "woman", "preacher", "stranger", "pub", "chapel", "strong", "tired", "on", "harvest", "plain", "knot", "slack"]
def sLen : List Nat := [3, 3, 7, 5, 8, 8, 3, 6, 6, 5, 2, 7, 5, 4, 5]
def sByt : List (List Int32) := [[109, 97, 110], [115, 111, 110], [100, 114, 105, 110, 107, 101, 114], [119, 111, 109, 97, 110], [112, 114, 101, 97, 99, 104, 101, 114], [115, 116, 114, 97, 110, 103, 101, 114], [112, 117, 98], [99, 104, 97, 112, 101, 108], [115, 116, 114, 111, 110, 103], [116, 105, 114, 101, 100], [111, 110], [104, 97, 114, 118, 101, 115, 116], [112, 108, 97, 105, 110], [107, 110, 111, 116], [115, 108, 97, 99, 107]]
abbrev bA (G : GT) : Nat → Prop := fun q => G.2.2.2 ≤ q
def nestL : List (String × Nat × MethodName) := [("EndlessTug", 24, ⟨"EndlessTug$Best", "<init>", "()V"⟩), ("EndlessTug", 31, ⟨"EndlessTug$Tape", "<init>", "()V"⟩), ("EndlessTug", 46, ⟨"EndlessTug$Sheet", "<init>", "()V"⟩), ("EndlessTug$Green", 68, ⟨"EndlessTug", "isKind", "(I)Z"⟩)]
def castL : List String := ["EndlessTug$Son", "EndlessTug$Drinker", "EndlessTug$Woman", "EndlessTug$Preacher", "EndlessTug$Stranger"]
def overL : List String := ["EndlessTug$Man", "EndlessTug$Person", "EndlessTug$Sheet"]
/-- what the rest of the world holds, and nobody changes -/
def Ro (Sc : SCR) (G : GT) (s : State) : Prop :=
  (∀ i, i < 15 → vk_R "EndlessTug$Tape" (sIdx.getD i 0) (sTxt.getD i "") (G.1 (400 + i)) s) ∧
  vk_S 15 sLen sByt (fun i => G.1 (400 + i)) (fun i => G.1 (450 + i)) (bA G) s s.heap ∧
  va_Z "java/lang/String" "COMPACT_STRINGS" "Z" (.int 1) (bA G) s s.heap ∧
  (va_Z "jdk/internal/util/Preconditions" "SIOOBE_FORMATTER" "Ljava/util/function/BiFunction;" .null (bA G) s s.heap ∨ va_Z "jdk/internal/util/Preconditions" "SIOOBE_FORMATTER" "Ljava/util/function/BiFunction;" (.ref (G.1 499)) (bA G) s s.heap) ∧
  (va_X (G.1 999) Sc.1 Sc.2 s s.heap ∧ G.1 999 < G.2.2.2 ∧ G.1 999 < s.heap.size) ∧
  (∀ q ∈ nestL, va_Nw (.methodLinkNest q.1 q.2.1 q.2.2 "EndlessTug") s) ∧
  (∀ C ∈ castL, va_Nw (.castable C "EndlessTug$Man") s) ∧ (∀ C ∈ overL, va_AO C s)
theorem Ro.warm {Sc : SCR} {G : GT} {s U : State} (h : Ro Sc G s) (hW : s.WarmedH U.vm) (hz : s.heap.size ≤ U.heap.size) (hk : ∀ q : Nat, q < s.heap.size → ¬ bA G q → U.heap[q]? = s.heap[q]?) : Ro Sc G U := by
  obtain ⟨h1, h2, h3, h4, ⟨h5, h5b, h5c⟩, h6, h7, h8⟩ := h
  refine ⟨fun i hi => (h1 i hi).warm hW, (h2.moved hW.alike).kept hk, (h3.moved hW.alike).kept hk, ?_, ⟨(h5.moved hW.alike).kept (hk _ h5c (Nat.not_le.mpr h5b)), h5b, Nat.lt_of_lt_of_le h5c hz⟩, fun q hq => (h6 q hq).warmM hW, fun C hC => (h7 C hC).warmC hW, fun C hC => (h8 C hC).moved hW.alike⟩
  rcases h4 with h4 | h4
  · exact Or.inl ((h4.moved hW.alike).kept hk)
  · exact Or.inr ((h4.moved hW.alike).kept hk)
/-- the world at a state: the places K with contents μ -/
def St (Sc : SCR) (G : GT) (U : State) (K : List kd) (μ : Mem) : Prop :=
  va_K G.2.2.1 cls13 (tyl G.2.1) U ∧ va_P G.2.2.1 cls13 (wl G K μ) U.heap ∧ U.heap.size = G.2.2.2 + K.length ∧ K.length ≤ 400 ∧ (∀ i, i < 400 → G.1 i = G.2.2.2 + i) ∧ Ro Sc G U
/-- the world inside a method that began at s, now with the heap H -/
def Dy (Sc : SCR) (G : GT) (s : State) (H : Heap) (locs : List Loc) (K : List kd) (μ : Mem) : Prop :=
  va_K G.2.2.1 cls13 (tyl G.2.1) s ∧ va_P G.2.2.1 cls13 (wl G K μ) H ∧ va_S (bA G) s.heap H locs ∧ H.size = G.2.2.2 + K.length ∧ G.2.2.2 ≤ s.heap.size ∧ K.length ≤ 400 ∧ (∀ i, i < 400 → G.1 i = G.2.2.2 + i) ∧ Ro Sc G s
theorem wl_apart {G : GT} {K : List kd} (μ : Mem) (hK : K.length ≤ 400) (ha : ∀ i, i < 400 → G.1 i = G.2.2.2 + i) : va_D (bA G) (wl G K μ) := by
  refine ⟨fun i j p q hp hq e => ?_, fun k q hq => ?_⟩
  · obtain ⟨h1, rfl⟩ := wl_at hp
    obtain ⟨h2, rfl⟩ := wl_at hq
    have e : G.1 i = G.1 j := e
    rw [ha i (by omega), ha j (by omega)] at e
    omega
  · obtain ⟨h1, rfl⟩ := wl_at hq
    show G.2.2.2 ≤ G.1 k
    rw [ha k (by omega)]
    omega
theorem Dy.D {Sc : SCR} {G : GT} {s : State} {H : Heap} {locs : List Loc} {K : List kd} {μ : Mem} (h : Dy Sc G s H locs K μ) : va_D (bA G) (wl G K μ) := wl_apart μ h.2.2.2.2.2.1 h.2.2.2.2.2.2.1
theorem Dy.A {Sc : SCR} {G : GT} {s : State} {H : Heap} {locs : List Loc} {K : List kd} {μ : Mem} (h : Dy Sc G s H locs K μ) : ∀ q, s.heap.size ≤ q → bA G q := fun _ hq => Nat.le_trans h.2.2.2.2.1 hq
/-- the fixed facts of a frame of method M -/
def Cx (M : MD) (p : Program) (R : Room) (s : State) (m : MethodId) (args : Array Value) (meth : Method) (c : Code) : Prop :=
  p.tables.exec = Jvm.exec ∧ c.code = M.2.1 ∧ c.maxLocals = M.2.2.1 ∧ s.vm.findClass M.1.cls = some m.cls ∧ (∀ w ∈ ws0, w.before args s = true) ∧ meth.sig.returnType = M.2.2.2.1 ∧ meth.locks = false ∧ meth.name = M.1.name ∧ M.2.2.2.2.1 ≤ R.frames ∧ M.2.2.2.2.2 ≤ R.locals
/-- a return of v may stand at pc -/
def RetAt (M : MD) (pc : Nat) (v : Option Value) : Prop := match v with
  | none => decode M.2.1 pc = .ok (.return_, 1) ∧ M.2.2.2.1 = none
  | some (.int x) => decode M.2.1 pc = .ok (.ireturn, 1) ∧ ∃ ty, M.2.2.2.1 = some ty ∧ narrow ty (.int x) = .int x
  | some (.long _) => decode M.2.1 pc = .ok (.lreturn, 1) ∧ M.2.2.2.1 = some .long
  | _ => False
def pushr (v : Option Value) (st : List Value) : List Value := match v with
  | some v => v :: st
  | none => st
abbrev PQ : Type := Option Value → List kd → Mem → Prop
/-- THE JUDGEMENT: method M at pc, with locals lv and stack st over the world K, μ, n cells and slots left to make, comes to a return that satisfies Q -/
def AW (Sc : SCR) (M : MD) (pc : Nat) (lv : List (Nat × Value)) (st : List Value) (K : List kd) (μ : Mem) (n : Nat × Nat) (Q : PQ) : Prop :=
  ∀ (p : Program) (l : Launch) (e : Env) (R : Room) (s : State) (m : MethodId) (args : Array Value) (below : List Frame) (meth : Method) (c : Code) (H : Heap) (locs : List Loc) (cells slots : Nat) (Qf : State → Prop) (G : GT) (ls : Array Slot),
    Cx M p R s m args meth c → Dy Sc G s H locs K μ → cells + n.1 ≤ R.cells ∧ slots + n.2 ≤ R.slots → lv_has ls M.2.2.1 (lv.map fun q => (q.1, cv G.1 q.2)) →
    (∀ (v : Option Value) (pc' : Nat) (ls' : Array Slot) (H' : Heap) (locs' : List Loc) (cells' slots' : Nat) (K' : List kd) (μ' : Mem), RetAt M pc' v → Q v K' μ' → Dy Sc G s H' locs' K' μ' → cells' ≤ R.cells ∧ slots' ≤ R.slots →
      W p l e R s m args below meth c H' locs' cells' slots' Qf (F0 m pc' ls' (pushr (v.map (cv G.1)) []))) →
    W p l e R s m args below meth c H locs cells slots Qf (F0 m pc ls (st.map (cv G.1)))
def PcOf (Sc : SCR) (G : GT) (av : List Value) (K : List kd) (μ : Mem) : Array Value → State → Prop := va_Pc (av.map (cv G.1)) (fun U => St Sc G U K μ)
def QcOf (G : GT) (Q : PQ) : Array Value → State → Outcome → State → Prop := fun _ st oc t => (∃ (v : Option Value) (K' : List kd) (μ' : Mem), oc = .returned (v.map (cv G.1)) ∧ Q v K' μ' ∧ va_P G.2.2.1 cls13 (wl G K' μ') t.heap ∧ t.heap.size = G.2.2.2 + K'.length ∧ K'.length ≤ 400) ∧ va_F (bA G) st t
def rmOf (M : MD) (n : Nat × Nat) : Room := { frames := M.2.2.2.2.1, cells := n.1, slots := n.2, locals := M.2.2.2.2.2 }
/-- THE CALL: method M with the arguments av -/
def AM (Sc : SCR) (M : MD) (av : List Value) (K : List kd) (μ : Mem) (n : Nat × Nat) (Q : PQ) : Prop := ∀ (l : Launch) (G : GT), Met l M.1 (wsM M) (rmOf M n) (PcOf Sc G av K μ) (QcOf G Q) n.1 n.2 (bA G)
theorem AW.mono {Sc : SCR} {M : MD} {pc : Nat} {lv : List (Nat × Value)} {st : List Value} {K : List kd} {μ : Mem} {n : Nat × Nat} {Q Q' : PQ} (h : AW Sc M pc lv st K μ n Q) (hq : ∀ v K μ, Q v K μ → Q' v K μ) : AW Sc M pc lv st K μ n Q' :=
  fun p l e R s m args below meth c H locs cells slots Qf G ls hC hD hn hl hr => h p l e R s m args below meth c H locs cells slots Qf G ls hC hD hn hl (fun v pc' ls' H' locs' c' s' K' μ' h1 h2 h3 h4 => hr v pc' ls' H' locs' c' s' K' μ' h1 (hq _ _ _ h2) h3 h4)
theorem lg_cat (ad : Nat → Nat) (v : Value) : (cv ad v).category = v.category := by cases v <;> rfl
theorem lv_args_cv (ad : Nat → Nat) : ∀ (vs : List Value) (i : Nat), lv_args i (vs.map (cv ad)) = (lv_args i vs).map fun q => (q.1, cv ad q.2)
  | [], _ => rfl
  | v :: vs, i => by
    simp only [List.map_cons, lv_args, lg_cat, lv_args_cv ad vs]
theorem FrameBlind_Pc (Sc : SCR) (G : GT) (av : List Value) (K : List kd) (μ : Mem) : FrameBlind (PcOf Sc G av K μ) := by
  intro a U g mk h
  obtain ⟨h1, h2, h3, h4, h5, h6, r1, r2, r3, r4, ⟨r5, r5b⟩, r6, r7, r8⟩ := h
  have hvm : (U.calling g mk a).vm = U.vm := rfl
  have hal : U.vm.Alike (U.calling g mk a).vm := Vm.Alike.refl U.vm
  refine ⟨h1, h2.moved (U := U.calling g mk a) hal, h3, h4, h5, h6, fun i hi => (r1 i hi).same hvm, r2.moved hal, r3.moved hal, ?_, ⟨r5.moved hal, r5b⟩, fun q hq => va_Nw.same rfl hvm.symm (r6 q hq), fun C hC => va_Nw.same rfl hvm.symm (r7 C hC), fun C hC => (r8 C hC).moved hal⟩
  rcases r4 with r4 | r4
  · exact Or.inl (r4.moved hal)
  · exact Or.inr (r4.moved hal)
end
section
/-! THE ABSTRACT MACHINE, 3: a method's contract out of its walk; what stands behind a call -/
theorem lg_sl_cv (ad : Nat → Nat) : ∀ vs : List Value, (lg_sl (vs.map (cv ad))).length = (lg_sl vs).length
  | [] => rfl
  | v :: vs => by
    have ih := lg_sl_cv ad vs
    have hc := lg_cat ad v
    simp only [List.map_cons, lg_sl, List.flatMap_cons, List.length_append] at ih ⊢
    rw [ih, hc]
    split <;> simp
theorem AM.of {Sc : SCR} {M : MD} {av : List Value} {K : List kd} {μ : Mem} {n : Nat × Nat} {Q : PQ} (hy : plainName M.1.cls = true) (hlen : (lg_sl av).length ≤ M.2.2.1) (h : AW Sc M 0 (lv_args 0 av) [] K μ n Q) : AM Sc M av K μ n Q := by
  intro l G
  refine Met.ofW (cc := M.2.1) (maxL := M.2.2.1) (ret := M.2.2.2.1) hy rfl ?_
  intro p e s m args below meth c s₁ B hml hv
  obtain ⟨rfl, h1, h2, h3, h4, h5, h6⟩ := hv
  have hts := atoms_spec (ws := wsM M) B.pre
  have hC : Cx M p (rmOf M n) s m (av.map (cv G.1)).toArray meth c := ⟨B.exec, B.bytes, hml, findClass_of_methodNamed B.named, fun w hw => hts w (List.mem_cons_of_mem _ hw), B.returns, B.notSynchronized, (name_of_methodNamed B.named B.method).1, Nat.le_refl _, Nat.le_refl _⟩
  have hD : Dy Sc G s s.heap [] K μ := ⟨h1, h2, va_S.rf, h3, by omega, h4, h5, h6⟩
  have hl := lv_entry (av.map (cv G.1)) (n := M.2.2.1) (by rw [lg_sl_cv]; exact hlen)
  rw [lv_args_cv] at hl
  rw [lg_entry_eq]
  refine h p l e (rmOf M n) s m _ below meth c s.heap [] 0 0 _ G _ hC hD ⟨by show 0 + n.1 ≤ n.1; omega, by show 0 + n.2 ≤ n.2; omega⟩ hl ?_
  intro v pc' ls' H' locs' cells' slots' K' μ' hR hQ hD' hn
  obtain ⟨hx, hb, -, -, -, hr, hlk, -⟩ := hC
  refine W.widen (k := n.1) (n := n.2) hn.1 hn.2 ?_
  have hq : ∀ t : State, t.heap = H' → s.WarmedH t.vm → QcOf G Q (av.map (cv G.1)).toArray s (.returned (v.map (cv G.1))) t := fun t ht _ => ⟨⟨v, K', μ', rfl, hQ, by rw [ht]; exact hD'.2.1, by rw [ht]; exact hD'.2.2.2.1, hD'.2.2.2.2.2.1⟩, hD'.2.2.1.F ht⟩
  match v, hR, hq with
  | none, hR, hq => exact W.vret hx hb (by rw [hr]; exact hR.2) hq hD'.2.2.1.2.2 hR.1 hlk
  | some (.int x), hR, hq =>
    obtain ⟨hd, ty, h7, h8⟩ := hR
    exact W.zret hx hb (by rw [hr]; exact h7) h8 hq hD'.2.2.1.2.2 hd hlk
  | some (.long x), hR, hq => exact W.lret hx hb (by rw [hr]; exact hR.2) hq hD'.2.2.1.2.2 hR.1 hlk
  | some (.float _), hR, _ => exact absurd hR id
  | some (.double _), hR, _ => exact absurd hR id
  | some (.ref _), hR, _ => exact absurd hR id
  | some .null, hR, _ => exact absurd hR id
theorem aw_after {Sc : SCR} {p : Program} {l : Launch} {e : Env} {R : Room} {s : State} {m : MethodId} {args : Array Value} {below : List Frame} {meth : Method} {c : Code} {H : Heap} {locs : List Loc} {cells slots mc ms pc : Nat} {ls : Array Slot} {st0 rest : List Value} {a : Array Value} {Qf : State → Prop} {G : GT} {K : List kd} {μ : Mem} {Q' : PQ}
    (hr : va_Run p l e R s m args below meth c H locs cells slots mc ms (F0 m pc ls st0) (rest.map (cv G.1)) (QcOf G Q' a) (bA G)) (hD : Dy Sc G s H locs K μ)
    (kk : ∀ (v : Option Value) (K' : List kd) (μ' : Mem) (H' : Heap) (locs' : List Loc), Q' v K' μ' → Dy Sc G s H' locs' K' μ' → W p l e R s m args below meth c H' locs' (cells + mc) (slots + ms) Qf (F0 m (pc + 3) ls ((pushr v rest).map (cv G.1)))) :
    W p l e R s m args below meth c H locs cells slots Qf (F0 m pc ls st0) := by
  intro T hT X
  obtain ⟨v, st₀, t, T', L, h0, X', hL, e1, e2, ⟨⟨v', K', μ', hv, hQ, hP, hz, h4⟩, hz2, hk⟩, st⟩ := hr T hT X
  cases hv
  rw [h0] at hz2 hk
  obtain ⟨d1, d2, dS, d3, d4, d5, d6, d7⟩ := hD
  have hS' : va_S (bA G) s.heap T'.heap (locs ++ L) := ⟨Nat.le_trans dS.1 (by rw [e1]; exact hz2), fun q g1 g2 => by rw [e1, hk q (Nat.lt_of_lt_of_le g1 dS.1) g2]; exact dS.2.1 q g1 g2, fun q hq => by
      rcases List.mem_append.mp hq with h | h
      · exact dS.2.2 q h
      · exact hL q h⟩
  obtain ⟨t2, a1, b1⟩ := kk v' K' μ' T'.heap (locs ++ L) hQ ⟨d1, by rw [e1]; exact hP, hS', by rw [e1]; exact hz, d4, h4, d6, d7⟩ T' rfl X'
  refine ⟨t2, st t2 ?_, b1⟩
  cases v' with
  | none => exact a1
  | some w => exact a1
theorem Dy.toSt {Sc : SCR} {G : GT} {s U : State} {H : Heap} {locs : List Loc} {K : List kd} {μ : Mem} (h : Dy Sc G s H locs K μ) (hU : U.heap = H) (hW : s.WarmedH U.vm) : St Sc G U K μ := by
  obtain ⟨d1, d2, dS, d3, d4, d5, d6, d7⟩ := h
  exact ⟨d1.moved hW.alike, by rw [hU]; exact d2, by rw [hU]; exact d3, d5, d6, d7.warm hW (by rw [hU]; exact dS.1) (fun q h1 h2 => by rw [hU]; exact dS.2.1 q h1 h2)⟩
/-- the receiver at place q is an object of the class C -/
def Rcv (K : List kd) (C : String) (q : Nat) : Prop := (∃ (ci : Nat) (r : vw_C), K[q]? = some (.inl ci) ∧ cls13[ci]? = some r ∧ r.1 = C) ∨ ∃ i, i < 15 ∧ q = 400 + i ∧ C = "java/lang/String"
theorem Rcv.ob {K : List kd} {C : String} {q ci : Nat} (h : K[q]? = some (.inl ci)) (hc : (cls13[ci]?).map (fun r => r.1) = some C) : Rcv K C q := by
  cases h2 : cls13[ci]? with
  | none => rw [h2] at hc; cases hc
  | some r => rw [h2] at hc; exact Or.inl ⟨ci, r, h, h2, Option.some.inj hc⟩
theorem Dy.recv {Sc : SCR} {G : GT} {s : State} {H : Heap} {locs : List Loc} {K : List kd} {μ : Mem} (h : Dy Sc G s H locs K μ) {C : String} {q : Nat} (hr : Rcv K C q) : ∃ cellB : Cell, H[G.1 q]? = some cellB ∧ cellB.vm.isStatics = false ∧ s.vm.findClass C = some cellB.cls := by
  obtain ⟨d1, d2, dS, d3, d4, d5, d6, d7⟩ := h
  rcases hr with ⟨ci, r, h1, h2, rfl⟩ | ⟨i, hi, rfl, rfl⟩
  · exact va_recv d1 d2 h2 (wl_get h1)
  · exact vk_recv (adK := fun i => G.1 (400 + i)) (i := i) d7.2.1 hi dS
theorem gi_app {l : List Cond} {M : MD} (h : ∀ w ∈ l, w ∈ ws0) (hc : cdW M ∈ ws0) : GoodIn ws0 (l ++ wsM M) := by
  intro w hw
  rcases List.mem_append.mp hw with hw | hw
  · exact ⟨h w hw, good_of_word (ws0_good (h w hw))⟩
  · exact goodIn0 hc w hw
def nPar (M : MD) (n : Nat) : Prop := M.1.cls ≠ "java/lang/invoke/MethodHandle" ∧ M.1.cls ≠ "java/lang/invoke/VarHandle" ∧ (parseMethodDescriptor M.1.desc).map (fun d => d.parameters.length) = some n
/-- links: of an own (or private) instance method, of a static one, of an overridden one, of a superclass's, of a constructor, of a nest mate's -/
def LkV (own : String) (idx : Nat) (M : MD) (n : Nat) : Prop := (∀ w ∈ ([.methodLink own idx M.1, .instanceMethod M.1, .selects M.1.cls M.1 M.1, .initialized M.1.cls] : List Cond), w ∈ ws0) ∧ cdW M ∈ ws0 ∧ nPar M n
def LkS (own : String) (idx : Nat) (M : MD) (n : Nat) : Prop := (∀ w ∈ ([.methodLink own idx M.1, .static M.1, .initialized M.1.cls] : List Cond), w ∈ ws0) ∧ cdW M ∈ ws0 ∧ nPar M n
def LkO (own : String) (idx : Nat) (C : String) (X M : MD) (n : Nat) : Prop := (∀ w ∈ ([.methodLink own idx X.1, .sameMethod X.1.cls X.1.cls X.1.name X.1.desc, .instanceMethod ⟨X.1.cls, X.1.name, X.1.desc⟩, .selects C X.1 M.1, .instanceMethod M.1, .initialized M.1.cls] : List Cond), w ∈ ws0) ∧ cdW M ∈ ws0 ∧ cdW X ∈ ws0 ∧ nPar X n
def LkSU (own : String) (idx : Nat) (M : MD) (n : Nat) : Prop := (∀ w ∈ ([.methodLink own idx M.1, .sameMethod M.1.cls M.1.cls M.1.name M.1.desc, .superclass own M.1.cls, .instanceMethod M.1, .initialized M.1.cls] : List Cond), w ∈ ws0) ∧ cdW M ∈ ws0 ∧ M.1.name ≠ "<init>" ∧ (parseMethodDescriptor M.1.desc).map (fun d => d.parameters.length) = some n
def LkI (own : String) (idx : Nat) (M : MD) (n : Nat) : Prop := (∀ w ∈ ([.methodLink own idx M.1, .instanceMethod M.1, .initialized M.1.cls] : List Cond), w ∈ ws0) ∧ cdW M ∈ ws0 ∧ M.1.name = "<init>" ∧ M.2.2.2.1 = none ∧ nPar M n
def LkIN (own : String) (idx : Nat) (M : MD) (n : Nat) : Prop := (∀ w ∈ ([.instanceMethod M.1, .initialized M.1.cls] : List Cond), w ∈ ws0) ∧ cdW M ∈ ws0 ∧ M.1.name = "<init>" ∧ M.2.2.2.1 = none ∧ nPar M n ∧ (own, idx, M.1) ∈ nestL
def LkSN (own : String) (idx : Nat) (M : MD) (n : Nat) : Prop := (∀ w ∈ ([.static M.1, .initialized M.1.cls] : List Cond), w ∈ ws0) ∧ cdW M ∈ ws0 ∧ nPar M n ∧ (own, idx, M.1) ∈ nestL
/-- the room below fits -/
abbrev Fit (M M' : MD) : Prop := M'.2.2.2.2.1 + 1 ≤ M.2.2.2.2.1 ∧ 8 + (M'.2.2.1 + 11) + M'.2.2.2.2.2 ≤ M.2.2.2.2.2
theorem st_cv {ad : Nat → Nat} {As rest : List Value} {q : Nat} : (As.reverse ++ .ref q :: rest).map (cv ad) = (As.map (cv ad)).reverse ++ .ref (ad q) :: rest.map (cv ad) := by
  simp [cv]
theorem st_cvS {ad : Nat → Nat} {As rest : List Value} : (As.reverse ++ rest).map (cv ad) = (As.map (cv ad)).reverse ++ rest.map (cv ad) := by
  simp
theorem cat_cv {ad : Nat → Nat} {rest : List Value} (h : (rest.map fun v => v.category).sum ≤ 8) : ((rest.map (cv ad)).map fun v => v.category).sum ≤ 8 := by
  rw [List.map_map]
  have e : ((fun v => Value.category v) ∘ cv ad) = fun v => Value.category v := by
    funext v
    exact lg_cat ad v
  rw [e]
  exact h
section ACalls
variable {Sc : SCR} {M M' X : MD} {pc idx k q : Nat} {lv : List (Nat × Value)} {As rest : List Value} {K : List kd} {μ : Mem} {n n1 n2 : Nat × Nat} {Q : PQ} {C : String}
theorem aw_cV (hk : LkV M.1.cls idx M' k) (hf : Fit M M') (hq : Rcv K M'.1.cls q) (h8 : (rest.map fun v => v.category).sum ≤ 8) (hlen : As.length = k) (hnn : n1.1 + n2.1 ≤ n.1 ∧ n1.2 + n2.2 ≤ n.2) (d : decode M.2.1 pc = .ok (.invokevirtual idx, 3))
    (h : AM Sc M' (.ref q :: As) K μ n1 (fun v K' μ' => AW Sc M (pc + 3) lv (pushr v rest) K' μ' n2 Q)) : AW Sc M pc lv (As.reverse ++ .ref q :: rest) K μ n Q := by
  intro p l e R s m args below meth c H locs cells slots Qf G ls hC hD hn hl hr
  obtain ⟨hx, hb, hml, hown, hts, -, -, -, hR1, hR2⟩ := id hC
  rw [st_cv]
  refine aw_after (va_runV (As := As.map (cv G.1)) (rest := rest.map (cv G.1)) (C := M'.1.cls) (own := M.1.cls) ⟨hx, hb, hml, hown, hts⟩ (h l G) (cwV k hts (gi_app hk.1 hk.2.1) rfl rfl rfl ⟨rfl, hk.2.2⟩ ⟨Nat.le_trans hf.1 hR1, Nat.le_trans hf.2 hR2⟩)
    ⟨FrameBlind_Pc _ _ _ _ _, hD.recv hq, fun U hU hW => ⟨rfl, hD.toSt hU hW⟩⟩ rfl (by rw [List.length_map]; exact hlen) hl.1 rfl (lv_room (cat_cv h8)) d ⟨by omega, by omega⟩) hD (fun v K' μ' H' locs' hQ hD' => ?_)
  exact hQ p l e R s m args below meth c H' locs' _ _ Qf G ls hC hD' ⟨by omega, by omega⟩ hl hr
theorem aw_cO (hk : LkO M.1.cls idx C X M' k) (hf : Fit M M') (hq : Rcv K C q) (h8 : (rest.map fun v => v.category).sum ≤ 8) (hlen : As.length = k) (hnn : n1.1 + n2.1 ≤ n.1 ∧ n1.2 + n2.2 ≤ n.2) (d : decode M.2.1 pc = .ok (.invokevirtual idx, 3))
    (h : AM Sc M' (.ref q :: As) K μ n1 (fun v K' μ' => AW Sc M (pc + 3) lv (pushr v rest) K' μ' n2 Q)) : AW Sc M pc lv (As.reverse ++ .ref q :: rest) K μ n Q := by
  intro p l e R s m args below meth c H locs cells slots Qf G ls hC hD hn hl hr
  obtain ⟨hx, hb, hml, hown, hts, -, -, -, hR1, hR2⟩ := id hC
  rw [st_cv]
  refine aw_after (va_runU (As := As.map (cv G.1)) (rest := rest.map (cv G.1)) (C := C) (own := M.1.cls) (owner := X.1.cls) (x := X.1) ⟨hx, hb, hml, hown, hts⟩ (h l G) (va_cwO k hts (gi_app hk.1 hk.2.1) rfl rfl rfl (b0 := X.2.1) (m0 := X.2.2.1) (r0 := X.2.2.2.1) hk.2.2.1 hk.2.2.2 ⟨Nat.le_trans hf.1 hR1, Nat.le_trans hf.2 hR2⟩)
    ⟨FrameBlind_Pc _ _ _ _ _, hD.recv hq, fun U hU hW => ⟨rfl, hD.toSt hU hW⟩⟩ rfl (by rw [List.length_map]; exact hlen) hl.1 rfl (lv_room (cat_cv h8)) d ⟨by omega, by omega⟩) hD (fun v K' μ' H' locs' hQ hD' => ?_)
  exact hQ p l e R s m args below meth c H' locs' _ _ Qf G ls hC hD' ⟨by omega, by omega⟩ hl hr
theorem aw_cS (hk : LkS M.1.cls idx M' k) (hf : Fit M M') (h8 : (rest.map fun v => v.category).sum ≤ 8) (hlen : As.length = k) (hnn : n1.1 + n2.1 ≤ n.1 ∧ n1.2 + n2.2 ≤ n.2) (d : decode M.2.1 pc = .ok (.invokestatic idx, 3))
    (h : AM Sc M' As K μ n1 (fun v K' μ' => AW Sc M (pc + 3) lv (pushr v rest) K' μ' n2 Q)) : AW Sc M pc lv (As.reverse ++ rest) K μ n Q := by
  intro p l e R s m args below meth c H locs cells slots Qf G ls hC hD hn hl hr
  obtain ⟨hx, hb, hml, hown, hts, -, -, -, hR1, hR2⟩ := id hC
  rw [st_cvS]
  refine aw_after (va_runS (As := As.map (cv G.1)) (rest := rest.map (cv G.1)) (own := M.1.cls) ⟨hx, hb, hml, hown, hts⟩ (h l G) (va_cwS k hts (gi_app hk.1 hk.2.1) rfl rfl rfl hk.2.2 ⟨Nat.le_trans hf.1 hR1, Nat.le_trans hf.2 hR2⟩)
    ⟨FrameBlind_Pc _ _ _ _ _, fun U hU hW => ⟨rfl, hD.toSt hU hW⟩⟩ rfl (by rw [List.length_map]; exact hlen) hl.1 rfl (lv_room (cat_cv h8)) d ⟨by omega, by omega⟩) hD (fun v K' μ' H' locs' hQ hD' => ?_)
  exact hQ p l e R s m args below meth c H' locs' _ _ Qf G ls hC hD' ⟨by omega, by omega⟩ hl hr
theorem aw_cSN (hk : LkSN M.1.cls idx M' k) (hf : Fit M M') (h8 : (rest.map fun v => v.category).sum ≤ 8) (hlen : As.length = k) (hnn : n1.1 + n2.1 ≤ n.1 ∧ n1.2 + n2.2 ≤ n.2) (d : decode M.2.1 pc = .ok (.invokestatic idx, 3))
    (h : AM Sc M' As K μ n1 (fun v K' μ' => AW Sc M (pc + 3) lv (pushr v rest) K' μ' n2 Q)) : AW Sc M pc lv (As.reverse ++ rest) K μ n Q := by
  intro p l e R s m args below meth c H locs cells slots Qf G ls hC hD hn hl hr
  obtain ⟨hx, hb, hml, hown, hts, -, -, -, hR1, hR2⟩ := id hC
  rw [st_cvS]
  have hNw := hD.2.2.2.2.2.2.2.2.2.2.2.2.1 _ hk.2.2.2
  refine aw_after (va_runSN (As := As.map (cv G.1)) (rest := rest.map (cv G.1)) (own := M.1.cls) (host := "EndlessTug") ⟨hx, hb, hml, hown, hts⟩ (h l G) ⟨va_cnB k hts (goodIn0 hk.2.1) rfl rfl rfl hNw (hts _ (hk.1 _ (by simp))) hk.2.2.1 ⟨Nat.le_trans hf.1 hR1, Nat.le_trans hf.2 hR2⟩, hts _ (hk.1 _ (by simp)), trivial⟩
    ⟨FrameBlind_Pc _ _ _ _ _, fun U hU hW => ⟨rfl, hD.toSt hU hW⟩⟩ rfl (by rw [List.length_map]; exact hlen) hl.1 rfl (lv_room (cat_cv h8)) d ⟨by omega, by omega⟩) hD (fun v K' μ' H' locs' hQ hD' => ?_)
  exact hQ p l e R s m args below meth c H' locs' _ _ Qf G ls hC hD' ⟨by omega, by omega⟩ hl hr
theorem aw_cSU {ci : Nat} (hk : LkSU M.1.cls idx M' k) (hf : Fit M M') (hq : K[q]? = some (.inl ci)) (hci : ci < 13) (h8 : (rest.map fun v => v.category).sum ≤ 8) (hlen : As.length = k) (hnn : n1.1 + n2.1 ≤ n.1 ∧ n1.2 + n2.2 ≤ n.2) (d : decode M.2.1 pc = .ok (.invokespecial idx, 3))
    (h : AM Sc M' (.ref q :: As) K μ n1 (fun v K' μ' => AW Sc M (pc + 3) lv (pushr v rest) K' μ' n2 Q)) : AW Sc M pc lv (As.reverse ++ .ref q :: rest) K μ n Q := by
  intro p l e R s m args below meth c H locs cells slots Qf G ls hC hD hn hl hr
  obtain ⟨hx, hb, hml, hown, hts, -, -, -, hR1, hR2⟩ := id hC
  rw [st_cv]
  have hc : cls13[ci]? = some cls13[ci] := List.getElem?_eq_getElem hci
  refine aw_after (va_runSU (As := As.map (cv G.1)) (rest := rest.map (cv G.1)) (C := cls13[ci].1) (own := M.1.cls) (hD.1.1 ci _ hc).2 ⟨hx, hb, hml, hown, hts⟩ (h l G) (va_cwSU k hts (gi_app hk.1 hk.2.1) rfl rfl rfl hk.2.2 ⟨Nat.le_trans hf.1 hR1, Nat.le_trans hf.2 hR2⟩)
    ⟨FrameBlind_Pc _ _ _ _ _, hD.recv (Or.inl ⟨ci, _, hq, hc, rfl⟩), fun U hU hW => ⟨rfl, hD.toSt hU hW⟩⟩ rfl (by rw [List.length_map]; exact hlen) hl.1 rfl (lv_room (cat_cv h8)) d ⟨by omega, by omega⟩) hD (fun v K' μ' H' locs' hQ hD' => ?_)
  exact hQ p l e R s m args below meth c H' locs' _ _ Qf G ls hC hD' ⟨by omega, by omega⟩ hl hr
theorem aw_cI (hk : LkI M.1.cls idx M' k) (hf : Fit M M') (h8 : (rest.map fun v => v.category).sum ≤ 8) (hlen : As.length = k) (hnn : n1.1 + n2.1 ≤ n.1 ∧ n1.2 + n2.2 ≤ n.2) (d : decode M.2.1 pc = .ok (.invokespecial idx, 3))
    (h : AM Sc M' (.ref q :: As) K μ n1 (fun v K' μ' => AW Sc M (pc + 3) lv (pushr v rest) K' μ' n2 Q)) : AW Sc M pc lv (As.reverse ++ .ref q :: rest) K μ n Q := by
  intro p l e R s m args below meth c H locs cells slots Qf G ls hC hD hn hl hr
  obtain ⟨hx, hb, hml, hown, hts, -, -, -, hR1, hR2⟩ := id hC
  rw [st_cv]
  obtain ⟨hk1, hk2, hk3, hk4, hk5⟩ := hk
  refine aw_after (va_runI (As := As.map (cv G.1)) (rest := rest.map (cv G.1)) (own := M.1.cls) ⟨hx, hb, hml, hown, hts⟩ (h l G) (cwI k hts (goodIn0 hk2) (by rw [← hk4]; rfl) rfl rfl (hts _ (hk1 _ (by simp))) (hts _ (hk1 _ (by simp))) (hts _ (hk1 _ (by simp))) hk3 hk5 ⟨Nat.le_trans hf.1 hR1, Nat.le_trans hf.2 hR2⟩)
    ⟨FrameBlind_Pc _ _ _ _ _, fun U hU hW => ⟨rfl, hD.toSt hU hW⟩⟩ rfl (by rw [List.length_map]; exact hlen) hl.1 rfl (lv_room (cat_cv h8)) d ⟨by omega, by omega⟩) hD (fun v K' μ' H' locs' hQ hD' => ?_)
  exact hQ p l e R s m args below meth c H' locs' _ _ Qf G ls hC hD' ⟨by omega, by omega⟩ hl hr
theorem aw_cIN (hk : LkIN M.1.cls idx M' k) (hf : Fit M M') (h8 : (rest.map fun v => v.category).sum ≤ 8) (hlen : As.length = k) (hnn : n1.1 + n2.1 ≤ n.1 ∧ n1.2 + n2.2 ≤ n.2) (d : decode M.2.1 pc = .ok (.invokespecial idx, 3))
    (h : AM Sc M' (.ref q :: As) K μ n1 (fun v K' μ' => AW Sc M (pc + 3) lv (pushr v rest) K' μ' n2 Q)) : AW Sc M pc lv (As.reverse ++ .ref q :: rest) K μ n Q := by
  intro p l e R s m args below meth c H locs cells slots Qf G ls hC hD hn hl hr
  obtain ⟨hx, hb, hml, hown, hts, -, -, -, hR1, hR2⟩ := id hC
  rw [st_cv]
  obtain ⟨hk1, hk2, hk3, hk4, hk5, hk6⟩ := hk
  have hNw := hD.2.2.2.2.2.2.2.2.2.2.2.2.1 _ hk6
  refine aw_after (va_runIN (As := As.map (cv G.1)) (rest := rest.map (cv G.1)) (own := M.1.cls) (host := "EndlessTug") ⟨hx, hb, hml, hown, hts⟩ (h l G) ⟨va_cnB k hts (goodIn0 hk2) (by rw [← hk4]; rfl) rfl rfl hNw (hts _ (hk1 _ (by simp))) hk5 ⟨Nat.le_trans hf.1 hR1, Nat.le_trans hf.2 hR2⟩, hk3, hts _ (hk1 _ (by simp))⟩
    ⟨FrameBlind_Pc _ _ _ _ _, fun U hU hW => ⟨rfl, hD.toSt hU hW⟩⟩ rfl (by rw [List.length_map]; exact hlen) hl.1 rfl (lv_room (cat_cv h8)) d ⟨by omega, by omega⟩) hD (fun v K' μ' H' locs' hQ hD' => ?_)
  exact hQ p l e R s m args below meth c H' locs' _ _ Qf G ls hC hD' ⟨by omega, by omega⟩ hl hr
end ACalls
end
section
/-! THE ABSTRACT MACHINE, 4: a rule an instruction (printed by wip/whole/gen_rules.py) -/
def lget (lv : List (Nat × Value)) (i : Nat) : Option Value := match lv with
  | [] => none
  | q :: t => if q.1 = i then some q.2 else lget t i
def lins (i : Nat) (v : Value) (lv : List (Nat × Value)) : List (Nat × Value) := match lv with
  | [] => [(i, v)]
  | q :: t => if q.1 < i then q :: lins i v t else (i, v) :: q :: t
def lset1 (lv : List (Nat × Value)) (i : Nat) (v : Value) : List (Nat × Value) := lins i v (lv.filter (fun q => !(q.1 == i) && !(q.1 + 1 == i && q.2.category == 2)))
def lset2 (lv : List (Nat × Value)) (i : Nat) (v : Value) : List (Nat × Value) := lins i v (lv.filter (fun q => !(q.1 == i) && (!(q.1 == i + 1) && !(q.1 + 1 == i && q.2.category == 2))))
theorem lget_mem : ∀ {lv : List (Nat × Value)} {i : Nat} {v : Value}, lget lv i = some v → (i, v) ∈ lv
  | [], _, _, h => by cases h
  | q :: t, i, v, h => by
    unfold lget at h
    split at h
    · next e => cases h; cases e; exact List.mem_cons_self
    · exact List.mem_cons_of_mem _ (lget_mem h)
theorem lins_mem : ∀ {lv : List (Nat × Value)} {i : Nat} {v : Value} {q : Nat × Value}, q ∈ lins i v lv → q = (i, v) ∨ q ∈ lv
  | [], _, _, _, h => Or.inl (List.mem_singleton.mp h)
  | w :: t, i, v, q, h => by
    unfold lins at h
    split at h
    · rcases List.mem_cons.mp h with rfl | h
      · exact Or.inr List.mem_cons_self
      · rcases lins_mem h with h | h
        · exact Or.inl h
        · exact Or.inr (List.mem_cons_of_mem _ h)
    · rcases List.mem_cons.mp h with rfl | h
      · exact Or.inl rfl
      · exact Or.inr h
theorem lv_ld {ls : Array Slot} {nL : Nat} {lv : List (Nat × Value)} {ad : Nat → Nat} {i : Nat} {v : Value} (h : lv_has ls nL (lv.map fun q => (q.1, cv ad q.2))) (hv : lget lv i = some v) : ls[i]? = some (.val (cv ad v)) := h.2.2 (i, cv ad v) (List.mem_map.mpr ⟨(i, v), lget_mem hv, rfl⟩)
theorem lv_st1 {ls : Array Slot} {nL : Nat} {lv : List (Nat × Value)} {ad : Nat → Nat} {i : Nat} {v : Value} (h : lv_has ls nL ((i, cv ad v) :: (lv.map fun q => (q.1, cv ad q.2)).filter (fun q => !(q.1 == i) && !(q.1 + 1 == i && q.2.category == 2)))) : lv_has ls nL ((lset1 lv i v).map fun q => (q.1, cv ad q.2)) := by
  refine ⟨h.1, h.2.1, fun q hq => ?_⟩
  obtain ⟨w, hw, rfl⟩ := List.mem_map.mp hq
  refine h.2.2 _ ?_
  rcases lins_mem hw with rfl | hw
  · exact List.mem_cons_self
  · obtain ⟨h1, h2⟩ := List.mem_filter.mp hw
    exact List.mem_cons_of_mem _ (List.mem_filter.mpr ⟨List.mem_map.mpr ⟨w, h1, rfl⟩, by simpa only [lg_cat] using h2⟩)
theorem lv_st2 {ls : Array Slot} {nL : Nat} {lv : List (Nat × Value)} {ad : Nat → Nat} {i : Nat} {v : Value} (h : lv_has ls nL ((i, cv ad v) :: (lv.map fun q => (q.1, cv ad q.2)).filter (fun q => !(q.1 == i) && (!(q.1 == i + 1) && !(q.1 + 1 == i && q.2.category == 2))))) : lv_has ls nL ((lset2 lv i v).map fun q => (q.1, cv ad q.2)) := by
  refine ⟨h.1, h.2.1, fun q hq => ?_⟩
  obtain ⟨w, hw, rfl⟩ := List.mem_map.mp hq
  refine h.2.2 _ ?_
  rcases lins_mem hw with rfl | hw
  · exact List.mem_cons_self
  · obtain ⟨h1, h2⟩ := List.mem_filter.mp hw
    exact List.mem_cons_of_mem _ (List.mem_filter.mpr ⟨List.mem_map.mpr ⟨w, h1, rfl⟩, by simpa only [lg_cat] using h2⟩)
section ARules
variable {Sc : SCR} {M : MD} {pc : Nat} {lv : List (Nat × Value)} {st : List Value} {K : List kd} {μ : Mem} {n : Nat × Nat} {Q : PQ}
theorem aw_iadd {x y : Int32} (d : decode M.2.1 pc = .ok (.iadd, 1)) (h : AW Sc M (pc + 1) lv (.int (x + y) :: st) K μ n Q) : AW Sc M pc lv (.int y :: .int x :: st) K μ n Q :=
  fun p l e R s m args below meth c H locs cells slots Qf G ls hC hD hn hl hr => lv_iadd hC.1 hC.2.1 d (h p l e R s m args below meth c H locs cells slots Qf G ls hC hD hn hl hr)
theorem aw_isub {x y : Int32} (d : decode M.2.1 pc = .ok (.isub, 1)) (h : AW Sc M (pc + 1) lv (.int (x - y) :: st) K μ n Q) : AW Sc M pc lv (.int y :: .int x :: st) K μ n Q :=
  fun p l e R s m args below meth c H locs cells slots Qf G ls hC hD hn hl hr => lv_isub hC.1 hC.2.1 d (h p l e R s m args below meth c H locs cells slots Qf G ls hC hD hn hl hr)
theorem aw_imul {x y : Int32} (d : decode M.2.1 pc = .ok (.imul, 1)) (h : AW Sc M (pc + 1) lv (.int (x * y) :: st) K μ n Q) : AW Sc M pc lv (.int y :: .int x :: st) K μ n Q :=
  fun p l e R s m args below meth c H locs cells slots Qf G ls hC hD hn hl hr => lv_imul hC.1 hC.2.1 d (h p l e R s m args below meth c H locs cells slots Qf G ls hC hD hn hl hr)
theorem aw_iand {x y : Int32} (d : decode M.2.1 pc = .ok (.iand, 1)) (h : AW Sc M (pc + 1) lv (.int (x &&& y) :: st) K μ n Q) : AW Sc M pc lv (.int y :: .int x :: st) K μ n Q :=
  fun p l e R s m args below meth c H locs cells slots Qf G ls hC hD hn hl hr => lv_iand hC.1 hC.2.1 d (h p l e R s m args below meth c H locs cells slots Qf G ls hC hD hn hl hr)
theorem aw_ior {x y : Int32} (d : decode M.2.1 pc = .ok (.ior, 1)) (h : AW Sc M (pc + 1) lv (.int (x ||| y) :: st) K μ n Q) : AW Sc M pc lv (.int y :: .int x :: st) K μ n Q :=
  fun p l e R s m args below meth c H locs cells slots Qf G ls hC hD hn hl hr => lv_ior hC.1 hC.2.1 d (h p l e R s m args below meth c H locs cells slots Qf G ls hC hD hn hl hr)
theorem aw_ixor {x y : Int32} (d : decode M.2.1 pc = .ok (.ixor, 1)) (h : AW Sc M (pc + 1) lv (.int (x ^^^ y) :: st) K μ n Q) : AW Sc M pc lv (.int y :: .int x :: st) K μ n Q :=
  fun p l e R s m args below meth c H locs cells slots Qf G ls hC hD hn hl hr => lv_ixor hC.1 hC.2.1 d (h p l e R s m args below meth c H locs cells slots Qf G ls hC hD hn hl hr)
theorem aw_ishl {x y : Int32} (d : decode M.2.1 pc = .ok (.ishl, 1)) (h : AW Sc M (pc + 1) lv (.int (x <<< (y &&& 31)) :: st) K μ n Q) : AW Sc M pc lv (.int y :: .int x :: st) K μ n Q :=
  fun p l e R s m args below meth c H locs cells slots Qf G ls hC hD hn hl hr => lv_ishl hC.1 hC.2.1 d (h p l e R s m args below meth c H locs cells slots Qf G ls hC hD hn hl hr)
theorem aw_ishr {x y : Int32} (d : decode M.2.1 pc = .ok (.ishr, 1)) (h : AW Sc M (pc + 1) lv (.int (x >>> (y &&& 31)) :: st) K μ n Q) : AW Sc M pc lv (.int y :: .int x :: st) K μ n Q :=
  fun p l e R s m args below meth c H locs cells slots Qf G ls hC hD hn hl hr => lv_ishr hC.1 hC.2.1 d (h p l e R s m args below meth c H locs cells slots Qf G ls hC hD hn hl hr)
theorem aw_idiv {x y : Int32} (hy : ¬ y = 0) (d : decode M.2.1 pc = .ok (.idiv, 1)) (h : AW Sc M (pc + 1) lv (.int (x / y) :: st) K μ n Q) : AW Sc M pc lv (.int y :: .int x :: st) K μ n Q :=
  fun p l e R s m args below meth c H locs cells slots Qf G ls hC hD hn hl hr => lv_idiv hC.1 hC.2.1 d hy (h p l e R s m args below meth c H locs cells slots Qf G ls hC hD hn hl hr)
theorem aw_irem {x y : Int32} (hy : ¬ y = 0) (d : decode M.2.1 pc = .ok (.irem, 1)) (h : AW Sc M (pc + 1) lv (.int (x % y) :: st) K μ n Q) : AW Sc M pc lv (.int y :: .int x :: st) K μ n Q :=
  fun p l e R s m args below meth c H locs cells slots Qf G ls hC hD hn hl hr => lv_irem hC.1 hC.2.1 d hy (by rw [irem_eq_mod]; exact h p l e R s m args below meth c H locs cells slots Qf G ls hC hD hn hl hr)
theorem aw_iushr {x y : Int32} (d : decode M.2.1 pc = .ok (.iushr, 1)) (h : AW Sc M (pc + 1) lv (.int ((x.toUInt32 >>> (y.toUInt32 &&& Int32.toUInt32 31)).toInt32) :: st) K μ n Q) : AW Sc M pc lv (.int y :: .int x :: st) K μ n Q :=
  fun p l e R s m args below meth c H locs cells slots Qf G ls hC hD hn hl hr => lv_iushr hC.1 hC.2.1 d rfl (h p l e R s m args below meth c H locs cells slots Qf G ls hC hD hn hl hr)
theorem aw_ineg {x : Int32} (d : decode M.2.1 pc = .ok (.ineg, 1)) (h : AW Sc M (pc + 1) lv (.int (-x) :: st) K μ n Q) : AW Sc M pc lv (.int x :: st) K μ n Q :=
  fun p l e R s m args below meth c H locs cells slots Qf G ls hC hD hn hl hr => lv_ineg hC.1 hC.2.1 d (h p l e R s m args below meth c H locs cells slots Qf G ls hC hD hn hl hr)
theorem aw_ladd {x y : Int64} (d : decode M.2.1 pc = .ok (.ladd, 1)) (h : AW Sc M (pc + 1) lv (.long (x + y) :: st) K μ n Q) : AW Sc M pc lv (.long y :: .long x :: st) K μ n Q :=
  fun p l e R s m args below meth c H locs cells slots Qf G ls hC hD hn hl hr => lv_ladd hC.1 hC.2.1 d (h p l e R s m args below meth c H locs cells slots Qf G ls hC hD hn hl hr)
theorem aw_lsub {x y : Int64} (d : decode M.2.1 pc = .ok (.lsub, 1)) (h : AW Sc M (pc + 1) lv (.long (x - y) :: st) K μ n Q) : AW Sc M pc lv (.long y :: .long x :: st) K μ n Q :=
  fun p l e R s m args below meth c H locs cells slots Qf G ls hC hD hn hl hr => lv_lsub hC.1 hC.2.1 d (h p l e R s m args below meth c H locs cells slots Qf G ls hC hD hn hl hr)
theorem aw_lmul {x y : Int64} (d : decode M.2.1 pc = .ok (.lmul, 1)) (h : AW Sc M (pc + 1) lv (.long (x * y) :: st) K μ n Q) : AW Sc M pc lv (.long y :: .long x :: st) K μ n Q :=
  fun p l e R s m args below meth c H locs cells slots Qf G ls hC hD hn hl hr => lv_lmul hC.1 hC.2.1 d (h p l e R s m args below meth c H locs cells slots Qf G ls hC hD hn hl hr)
theorem aw_land {x y : Int64} (d : decode M.2.1 pc = .ok (.land, 1)) (h : AW Sc M (pc + 1) lv (.long (x &&& y) :: st) K μ n Q) : AW Sc M pc lv (.long y :: .long x :: st) K μ n Q :=
  fun p l e R s m args below meth c H locs cells slots Qf G ls hC hD hn hl hr => lv_land hC.1 hC.2.1 d (h p l e R s m args below meth c H locs cells slots Qf G ls hC hD hn hl hr)
theorem aw_lor {x y : Int64} (d : decode M.2.1 pc = .ok (.lor, 1)) (h : AW Sc M (pc + 1) lv (.long (x ||| y) :: st) K μ n Q) : AW Sc M pc lv (.long y :: .long x :: st) K μ n Q :=
  fun p l e R s m args below meth c H locs cells slots Qf G ls hC hD hn hl hr => lv_lor hC.1 hC.2.1 d (h p l e R s m args below meth c H locs cells slots Qf G ls hC hD hn hl hr)
theorem aw_lshl {x : Int64} {y : Int32} (d : decode M.2.1 pc = .ok (.lshl, 1)) (h : AW Sc M (pc + 1) lv (.long (x <<< (y.toInt64 &&& 63)) :: st) K μ n Q) : AW Sc M pc lv (.int y :: .long x :: st) K μ n Q :=
  fun p l e R s m args below meth c H locs cells slots Qf G ls hC hD hn hl hr => lv_lshl hC.1 hC.2.1 d rfl (h p l e R s m args below meth c H locs cells slots Qf G ls hC hD hn hl hr)
theorem aw_lcmp {x y : Int64} (d : decode M.2.1 pc = .ok (.lcmp, 1)) (h : AW Sc M (pc + 1) lv (.int (lg_cmp x y) :: st) K μ n Q) : AW Sc M pc lv (.long y :: .long x :: st) K μ n Q :=
  fun p l e R s m args below meth c H locs cells slots Qf G ls hC hD hn hl hr => W.lcmp hC.1 hC.2.1 d (h p l e R s m args below meth c H locs cells slots Qf G ls hC hD hn hl hr)
theorem aw_i2l {x : Int32} (d : decode M.2.1 pc = .ok (.i2l, 1)) (h : AW Sc M (pc + 1) lv (.long x.toInt64 :: st) K μ n Q) : AW Sc M pc lv (.int x :: st) K μ n Q :=
  fun p l e R s m args below meth c H locs cells slots Qf G ls hC hD hn hl hr => lv_i2l hC.1 hC.2.1 d rfl (h p l e R s m args below meth c H locs cells slots Qf G ls hC hD hn hl hr)
theorem aw_l2i {x : Int64} (d : decode M.2.1 pc = .ok (.l2i, 1)) (h : AW Sc M (pc + 1) lv (.int x.toInt32 :: st) K μ n Q) : AW Sc M pc lv (.long x :: st) K μ n Q :=
  fun p l e R s m args below meth c H locs cells slots Qf G ls hC hD hn hl hr => lv_l2i hC.1 hC.2.1 d rfl (h p l e R s m args below meth c H locs cells slots Qf G ls hC hD hn hl hr)
theorem aw_i2b {x : Int32} (d : decode M.2.1 pc = .ok (.i2b, 1)) (h : AW Sc M (pc + 1) lv (.int x.toInt8.toInt32 :: st) K μ n Q) : AW Sc M pc lv (.int x :: st) K μ n Q :=
  fun p l e R s m args below meth c H locs cells slots Qf G ls hC hD hn hl hr => lv_i2b hC.1 hC.2.1 d rfl (h p l e R s m args below meth c H locs cells slots Qf G ls hC hD hn hl hr)
theorem aw_i2s {x : Int32} (d : decode M.2.1 pc = .ok (.i2s, 1)) (h : AW Sc M (pc + 1) lv (.int x.toInt16.toInt32 :: st) K μ n Q) : AW Sc M pc lv (.int x :: st) K μ n Q :=
  fun p l e R s m args below meth c H locs cells slots Qf G ls hC hD hn hl hr => lv_i2s hC.1 hC.2.1 d rfl (h p l e R s m args below meth c H locs cells slots Qf G ls hC hD hn hl hr)
theorem aw_i2c {x : Int32} (d : decode M.2.1 pc = .ok (.i2c, 1)) (h : AW Sc M (pc + 1) lv (.int (x.toUInt32 % 65536).toInt32 :: st) K μ n Q) : AW Sc M pc lv (.int x :: st) K μ n Q :=
  fun p l e R s m args below meth c H locs cells slots Qf G ls hC hD hn hl hr => lv_i2c hC.1 hC.2.1 d rfl (h p l e R s m args below meth c H locs cells slots Qf G ls hC hD hn hl hr)
theorem aw_iconst {k : Int} {v : Int32} (hv : Int32.ofInt k = v) (d : decode M.2.1 pc = .ok (.iconst k, 1)) (h : AW Sc M (pc + 1) lv (.int v :: st) K μ n Q) : AW Sc M pc lv st K μ n Q :=
  fun p l e R s m args below meth c H locs cells slots Qf G ls hC hD hn hl hr => lv_iconst hC.1 hC.2.1 d hv (h p l e R s m args below meth c H locs cells slots Qf G ls hC hD hn hl hr)
theorem aw_bipush {k : Int} {v : Int32} (hv : (Int8.ofInt k).toInt32 = v) (d : decode M.2.1 pc = .ok (.bipush k, 2)) (h : AW Sc M (pc + 2) lv (.int v :: st) K μ n Q) : AW Sc M pc lv st K μ n Q :=
  fun p l e R s m args below meth c H locs cells slots Qf G ls hC hD hn hl hr => lv_bipush hC.1 hC.2.1 d hv (h p l e R s m args below meth c H locs cells slots Qf G ls hC hD hn hl hr)
theorem aw_sipush {k : Int} {v : Int32} (hv : (Int16.ofInt k).toInt32 = v) (d : decode M.2.1 pc = .ok (.sipush k, 3)) (h : AW Sc M (pc + 3) lv (.int v :: st) K μ n Q) : AW Sc M pc lv st K μ n Q :=
  fun p l e R s m args below meth c H locs cells slots Qf G ls hC hD hn hl hr => lv_sipush hC.1 hC.2.1 d hv (h p l e R s m args below meth c H locs cells slots Qf G ls hC hD hn hl hr)
theorem aw_lconst {k : Fin 2} {v : Int64} (hv : Int64.ofNat (k : Nat) = v) (d : decode M.2.1 pc = .ok (.lconst k, 1)) (h : AW Sc M (pc + 1) lv (.long v :: st) K μ n Q) : AW Sc M pc lv st K μ n Q :=
  fun p l e R s m args below meth c H locs cells slots Qf G ls hC hD hn hl hr => lv_lconst hC.1 hC.2.1 d hv (h p l e R s m args below meth c H locs cells slots Qf G ls hC hD hn hl hr)
theorem aw_null (d : decode M.2.1 pc = .ok (.aconst_null, 1)) (h : AW Sc M (pc + 1) lv (.null :: st) K μ n Q) : AW Sc M pc lv st K μ n Q :=
  fun p l e R s m args below meth c H locs cells slots Qf G ls hC hD hn hl hr => lv_null hC.1 hC.2.1 d (h p l e R s m args below meth c H locs cells slots Qf G ls hC hD hn hl hr)
theorem aw_ldc {k : Nat} {v : Int32} (hw : Cond.constant M.1.cls k v ∈ ws0) (d : decode M.2.1 pc = .ok (.ldc k, 2)) (h : AW Sc M (pc + 2) lv (.int v :: st) K μ n Q) : AW Sc M pc lv st K μ n Q :=
  fun p l e R s m args below meth c H locs cells slots Qf G ls hC hD hn hl hr => lv_ldc hC.1 hC.2.1 hC.2.2.2.1 (hC.2.2.2.2.1 _ hw) d (h p l e R s m args below meth c H locs cells slots Qf G ls hC hD hn hl hr)
theorem aw_ldc_w {k : Nat} {v : Int32} (hw : Cond.constant M.1.cls k v ∈ ws0) (d : decode M.2.1 pc = .ok (.ldc_w k, 3)) (h : AW Sc M (pc + 3) lv (.int v :: st) K μ n Q) : AW Sc M pc lv st K μ n Q :=
  fun p l e R s m args below meth c H locs cells slots Qf G ls hC hD hn hl hr => lv_ldcw hC.1 hC.2.1 hC.2.2.2.1 (hC.2.2.2.2.1 _ hw) d (h p l e R s m args below meth c H locs cells slots Qf G ls hC hD hn hl hr)
theorem aw_ldc2 {k : Nat} {v : Int64} (hw : Cond.constantLong M.1.cls k v ∈ ws0) (d : decode M.2.1 pc = .ok (.ldc2_w k, 3)) (h : AW Sc M (pc + 3) lv (.long v :: st) K μ n Q) : AW Sc M pc lv st K μ n Q :=
  fun p l e R s m args below meth c H locs cells slots Qf G ls hC hD hn hl hr => lv_ldc2 hC.1 hC.2.1 hC.2.2.2.1 (hC.2.2.2.2.1 _ hw) d (h p l e R s m args below meth c H locs cells slots Qf G ls hC hD hn hl hr)
theorem aw_ldcS (i : Nat) (hi : i < 15) (ho : M.1.cls = "EndlessTug$Tape") {k : Nat} (hk : sIdx.getD i 0 = k) (d : decode M.2.1 pc = .ok (.ldc k, 2)) (h : AW Sc M (pc + 2) lv (.ref (400 + i) :: st) K μ n Q) : AW Sc M pc lv st K μ n Q :=
  fun p l e R s m args below meth c H locs cells slots Qf G ls hC hD hn hl hr => va_ldcS (own := "EndlessTug$Tape") (tx := sTxt.getD i "") hC.1 hC.2.1 (by rw [← ho]; exact hC.2.2.2.1) (by rw [← hk]; exact hD.2.2.2.2.2.2.2.1 i hi) d (h p l e R s m args below meth c H locs cells slots Qf G ls hC hD hn hl hr)
theorem aw_iload_n {k : Fin 4} {x : Int32} (hv : lget lv (k : Nat) = some (.int x)) (d : decode M.2.1 pc = .ok (.iload_n k, 1)) (h : AW Sc M (pc + 1) lv (.int x :: st) K μ n Q) : AW Sc M pc lv st K μ n Q :=
  fun p l e R s m args below meth c H locs cells slots Qf G ls hC hD hn hl hr => lv_iload_n hC.1 hC.2.1 d rfl (lv_ld hl hv) (h p l e R s m args below meth c H locs cells slots Qf G ls hC hD hn hl hr)
theorem aw_iload {k : Nat} {x : Int32} (hv : lget lv k = some (.int x)) (d : decode M.2.1 pc = .ok (.iload k, 2)) (h : AW Sc M (pc + 2) lv (.int x :: st) K μ n Q) : AW Sc M pc lv st K μ n Q :=
  fun p l e R s m args below meth c H locs cells slots Qf G ls hC hD hn hl hr => lv_iload hC.1 hC.2.1 d (lv_ld hl hv) (h p l e R s m args below meth c H locs cells slots Qf G ls hC hD hn hl hr)
theorem aw_lload_n {k : Fin 4} {x : Int64} (hv : lget lv (k : Nat) = some (.long x)) (d : decode M.2.1 pc = .ok (.lload_n k, 1)) (h : AW Sc M (pc + 1) lv (.long x :: st) K μ n Q) : AW Sc M pc lv st K μ n Q :=
  fun p l e R s m args below meth c H locs cells slots Qf G ls hC hD hn hl hr => lv_lload_n hC.1 hC.2.1 d rfl (lv_ld hl hv) (h p l e R s m args below meth c H locs cells slots Qf G ls hC hD hn hl hr)
theorem aw_lload {k : Nat} {x : Int64} (hv : lget lv k = some (.long x)) (d : decode M.2.1 pc = .ok (.lload k, 2)) (h : AW Sc M (pc + 2) lv (.long x :: st) K μ n Q) : AW Sc M pc lv st K μ n Q :=
  fun p l e R s m args below meth c H locs cells slots Qf G ls hC hD hn hl hr => lv_lload hC.1 hC.2.1 d (lv_ld hl hv) (h p l e R s m args below meth c H locs cells slots Qf G ls hC hD hn hl hr)
theorem aw_aload_n {k : Fin 4} {x : Nat} (hv : lget lv (k : Nat) = some (.ref x)) (d : decode M.2.1 pc = .ok (.aload_n k, 1)) (h : AW Sc M (pc + 1) lv (.ref x :: st) K μ n Q) : AW Sc M pc lv st K μ n Q :=
  fun p l e R s m args below meth c H locs cells slots Qf G ls hC hD hn hl hr => lv_aload_n hC.1 hC.2.1 d rfl (lv_ld hl hv) (h p l e R s m args below meth c H locs cells slots Qf G ls hC hD hn hl hr)
theorem aw_aload {k : Nat} {x : Nat} (hv : lget lv k = some (.ref x)) (d : decode M.2.1 pc = .ok (.aload k, 2)) (h : AW Sc M (pc + 2) lv (.ref x :: st) K μ n Q) : AW Sc M pc lv st K μ n Q :=
  fun p l e R s m args below meth c H locs cells slots Qf G ls hC hD hn hl hr => lv_aload hC.1 hC.2.1 d (lv_ld hl hv) (h p l e R s m args below meth c H locs cells slots Qf G ls hC hD hn hl hr)
theorem aw_istore_n {k : Fin 4} {x : Int32} (hk : (k : Nat) < M.2.2.1) (d : decode M.2.1 pc = .ok (.istore_n k, 1)) (h : AW Sc M (pc + 1) (lset1 lv (k : Nat) (.int x)) st K μ n Q) : AW Sc M pc lv (.int x :: st) K μ n Q :=
  fun p l e R s m args below meth c H locs cells slots Qf G ls hC hD hn hl hr => lv_istore_n hC.1 hC.2.1 d rfl hl hk rfl (fun ls' hl' => h p l e R s m args below meth c H locs cells slots Qf G ls' hC hD hn (lv_st1 hl') hr)
theorem aw_istore {k : Nat} {x : Int32} (hk : k < M.2.2.1) (d : decode M.2.1 pc = .ok (.istore k, 2)) (h : AW Sc M (pc + 2) (lset1 lv k (.int x)) st K μ n Q) : AW Sc M pc lv (.int x :: st) K μ n Q :=
  fun p l e R s m args below meth c H locs cells slots Qf G ls hC hD hn hl hr => lv_istore hC.1 hC.2.1 d hl hk rfl (fun ls' hl' => h p l e R s m args below meth c H locs cells slots Qf G ls' hC hD hn (lv_st1 hl') hr)
theorem aw_astore_n {k : Fin 4} {x : Nat} (hk : (k : Nat) < M.2.2.1) (d : decode M.2.1 pc = .ok (.astore_n k, 1)) (h : AW Sc M (pc + 1) (lset1 lv (k : Nat) (.ref x)) st K μ n Q) : AW Sc M pc lv (.ref x :: st) K μ n Q :=
  fun p l e R s m args below meth c H locs cells slots Qf G ls hC hD hn hl hr => lv_astore_n hC.1 hC.2.1 d rfl hl hk rfl (fun ls' hl' => h p l e R s m args below meth c H locs cells slots Qf G ls' hC hD hn (lv_st1 hl') hr)
theorem aw_astore {k : Nat} {x : Nat} (hk : k < M.2.2.1) (d : decode M.2.1 pc = .ok (.astore k, 2)) (h : AW Sc M (pc + 2) (lset1 lv k (.ref x)) st K μ n Q) : AW Sc M pc lv (.ref x :: st) K μ n Q :=
  fun p l e R s m args below meth c H locs cells slots Qf G ls hC hD hn hl hr => lv_astore hC.1 hC.2.1 d hl hk rfl (fun ls' hl' => h p l e R s m args below meth c H locs cells slots Qf G ls' hC hD hn (lv_st1 hl') hr)
theorem aw_lstore_n {k : Fin 4} {x : Int64} (hk : (k : Nat) + 1 < M.2.2.1) (d : decode M.2.1 pc = .ok (.lstore_n k, 1)) (h : AW Sc M (pc + 1) (lset2 lv (k : Nat) (.long x)) st K μ n Q) : AW Sc M pc lv (.long x :: st) K μ n Q :=
  fun p l e R s m args below meth c H locs cells slots Qf G ls hC hD hn hl hr => lv_lstore_n hC.1 hC.2.1 d rfl hl hk rfl (fun ls' hl' => h p l e R s m args below meth c H locs cells slots Qf G ls' hC hD hn (lv_st2 hl') hr)
theorem aw_lstore {k : Nat} {x : Int64} (hk : k + 1 < M.2.2.1) (d : decode M.2.1 pc = .ok (.lstore k, 2)) (h : AW Sc M (pc + 2) (lset2 lv k (.long x)) st K μ n Q) : AW Sc M pc lv (.long x :: st) K μ n Q :=
  fun p l e R s m args below meth c H locs cells slots Qf G ls hC hD hn hl hr => lv_lstore hC.1 hC.2.1 d hl hk rfl (fun ls' hl' => h p l e R s m args below meth c H locs cells slots Qf G ls' hC hD hn (lv_st2 hl') hr)
theorem aw_iinc {i : Nat} {k : Int} {x v : Int32} (hx : lget lv i = some (.int x)) (hv : Int32.ofInt k = v) (hk : i < M.2.2.1) (d : decode M.2.1 pc = .ok (.iinc i k, 3)) (h : AW Sc M (pc + 3) (lset1 lv i (.int (x + v))) st K μ n Q) : AW Sc M pc lv st K μ n Q := by
  intro p l e R s m args below meth c H locs cells slots Qf G ls hC hD hn hl hr
  subst hv
  obtain ⟨j, hj⟩ := List.getElem?_of_mem (List.mem_map.mpr ⟨(i, .int x), lget_mem hx, rfl⟩ : (i, cv G.1 (.int x)) ∈ lv.map fun q => (q.1, cv G.1 q.2))
  exact lv_iinc (v := x + Int32.ofInt k) hC.1 hC.2.1 d hl (k := j) hj rfl hk rfl (fun ls' hl' => h p l e R s m args below meth c H locs cells slots Qf G ls' hC hD hn (lv_st1 hl') hr)
theorem aw_dup {v : Value} (hv : v.category = 1) (d : decode M.2.1 pc = .ok (.dup, 1)) (h : AW Sc M (pc + 1) lv (v :: v :: st) K μ n Q) : AW Sc M pc lv (v :: st) K μ n Q :=
  fun p l e R s m args below meth c H locs cells slots Qf G ls hC hD hn hl hr => lv_dup hC.1 hC.2.1 d (by rw [lg_cat]; exact hv) (h p l e R s m args below meth c H locs cells slots Qf G ls hC hD hn hl hr)
theorem aw_pop {v : Value} (hv : v.category = 1) (d : decode M.2.1 pc = .ok (.pop, 1)) (h : AW Sc M (pc + 1) lv st K μ n Q) : AW Sc M pc lv (v :: st) K μ n Q :=
  fun p l e R s m args below meth c H locs cells slots Qf G ls hC hD hn hl hr => lv_pop hC.1 hC.2.1 d (by rw [lg_cat]; exact hv) (h p l e R s m args below meth c H locs cells slots Qf G ls hC hD hn hl hr)
theorem aw_dup2 {v w : Value} (hv : v.category = 1) (hw : w.category = 1) (d : decode M.2.1 pc = .ok (.dup2, 1)) (h : AW Sc M (pc + 1) lv (v :: w :: v :: w :: st) K μ n Q) : AW Sc M pc lv (v :: w :: st) K μ n Q :=
  fun p l e R s m args below meth c H locs cells slots Qf G ls hC hD hn hl hr => lv_dup2_11 hC.1 hC.2.1 d (by rw [lg_cat]; exact hv) (by rw [lg_cat]; exact hw) (h p l e R s m args below meth c H locs cells slots Qf G ls hC hD hn hl hr)
theorem aw_if_eq {x : Int32} {off : Int} (tgt : Nat) (ht : (pc : Int) + off = (tgt : Int)) (d : decode M.2.1 pc = .ok (.ifCond .eq off, 3)) (kt : x = 0 → AW Sc M tgt lv st K μ n Q) (kf : ¬ x = 0 → AW Sc M (pc + 3) lv st K μ n Q) : AW Sc M pc lv (.int x :: st) K μ n Q :=
  fun p l e R s m args below meth c H locs cells slots Qf G ls hC hD hn hl hr => lv_if_eq (tgt := tgt) hC.1 hC.2.1 d ht (fun z => kt z p l e R s m args below meth c H locs cells slots Qf G ls hC hD hn hl hr) (fun z => kf z p l e R s m args below meth c H locs cells slots Qf G ls hC hD hn hl hr)
theorem aw_icmp_eq {x y : Int32} {off : Int} (tgt : Nat) (ht : (pc : Int) + off = (tgt : Int)) (d : decode M.2.1 pc = .ok (.if_icmp .eq off, 3)) (kt : x = y → AW Sc M tgt lv st K μ n Q) (kf : ¬ x = y → AW Sc M (pc + 3) lv st K μ n Q) : AW Sc M pc lv (.int y :: .int x :: st) K μ n Q :=
  fun p l e R s m args below meth c H locs cells slots Qf G ls hC hD hn hl hr => lv_icmp_eq (tgt := tgt) hC.1 hC.2.1 d ht (fun z => kt z p l e R s m args below meth c H locs cells slots Qf G ls hC hD hn hl hr) (fun z => kf z p l e R s m args below meth c H locs cells slots Qf G ls hC hD hn hl hr)
theorem aw_if_ne {x : Int32} {off : Int} (tgt : Nat) (ht : (pc : Int) + off = (tgt : Int)) (d : decode M.2.1 pc = .ok (.ifCond .ne off, 3)) (kt : ¬ x = 0 → AW Sc M tgt lv st K μ n Q) (kf : x = 0 → AW Sc M (pc + 3) lv st K μ n Q) : AW Sc M pc lv (.int x :: st) K μ n Q :=
  fun p l e R s m args below meth c H locs cells slots Qf G ls hC hD hn hl hr => lv_if_ne (tgt := tgt) hC.1 hC.2.1 d ht (fun z => kt z p l e R s m args below meth c H locs cells slots Qf G ls hC hD hn hl hr) (fun z => kf z p l e R s m args below meth c H locs cells slots Qf G ls hC hD hn hl hr)
theorem aw_icmp_ne {x y : Int32} {off : Int} (tgt : Nat) (ht : (pc : Int) + off = (tgt : Int)) (d : decode M.2.1 pc = .ok (.if_icmp .ne off, 3)) (kt : ¬ x = y → AW Sc M tgt lv st K μ n Q) (kf : x = y → AW Sc M (pc + 3) lv st K μ n Q) : AW Sc M pc lv (.int y :: .int x :: st) K μ n Q :=
  fun p l e R s m args below meth c H locs cells slots Qf G ls hC hD hn hl hr => lv_icmp_ne (tgt := tgt) hC.1 hC.2.1 d ht (fun z => kt z p l e R s m args below meth c H locs cells slots Qf G ls hC hD hn hl hr) (fun z => kf z p l e R s m args below meth c H locs cells slots Qf G ls hC hD hn hl hr)
theorem aw_if_lt {x : Int32} {off : Int} (tgt : Nat) (ht : (pc : Int) + off = (tgt : Int)) (d : decode M.2.1 pc = .ok (.ifCond .lt off, 3)) (kt : x < 0 → AW Sc M tgt lv st K μ n Q) (kf : ¬ x < 0 → AW Sc M (pc + 3) lv st K μ n Q) : AW Sc M pc lv (.int x :: st) K μ n Q :=
  fun p l e R s m args below meth c H locs cells slots Qf G ls hC hD hn hl hr => lv_if_lt (tgt := tgt) hC.1 hC.2.1 d ht (fun z => kt z p l e R s m args below meth c H locs cells slots Qf G ls hC hD hn hl hr) (fun z => kf z p l e R s m args below meth c H locs cells slots Qf G ls hC hD hn hl hr)
theorem aw_icmp_lt {x y : Int32} {off : Int} (tgt : Nat) (ht : (pc : Int) + off = (tgt : Int)) (d : decode M.2.1 pc = .ok (.if_icmp .lt off, 3)) (kt : x < y → AW Sc M tgt lv st K μ n Q) (kf : ¬ x < y → AW Sc M (pc + 3) lv st K μ n Q) : AW Sc M pc lv (.int y :: .int x :: st) K μ n Q :=
  fun p l e R s m args below meth c H locs cells slots Qf G ls hC hD hn hl hr => lv_icmp_lt (tgt := tgt) hC.1 hC.2.1 d ht (fun z => kt z p l e R s m args below meth c H locs cells slots Qf G ls hC hD hn hl hr) (fun z => kf z p l e R s m args below meth c H locs cells slots Qf G ls hC hD hn hl hr)
theorem aw_if_ge {x : Int32} {off : Int} (tgt : Nat) (ht : (pc : Int) + off = (tgt : Int)) (d : decode M.2.1 pc = .ok (.ifCond .ge off, 3)) (kt : 0 ≤ x → AW Sc M tgt lv st K μ n Q) (kf : ¬ 0 ≤ x → AW Sc M (pc + 3) lv st K μ n Q) : AW Sc M pc lv (.int x :: st) K μ n Q :=
  fun p l e R s m args below meth c H locs cells slots Qf G ls hC hD hn hl hr => lv_if_ge (tgt := tgt) hC.1 hC.2.1 d ht (fun z => kt z p l e R s m args below meth c H locs cells slots Qf G ls hC hD hn hl hr) (fun z => kf z p l e R s m args below meth c H locs cells slots Qf G ls hC hD hn hl hr)
theorem aw_icmp_ge {x y : Int32} {off : Int} (tgt : Nat) (ht : (pc : Int) + off = (tgt : Int)) (d : decode M.2.1 pc = .ok (.if_icmp .ge off, 3)) (kt : y ≤ x → AW Sc M tgt lv st K μ n Q) (kf : ¬ y ≤ x → AW Sc M (pc + 3) lv st K μ n Q) : AW Sc M pc lv (.int y :: .int x :: st) K μ n Q :=
  fun p l e R s m args below meth c H locs cells slots Qf G ls hC hD hn hl hr => lv_icmp_ge (tgt := tgt) hC.1 hC.2.1 d ht (fun z => kt z p l e R s m args below meth c H locs cells slots Qf G ls hC hD hn hl hr) (fun z => kf z p l e R s m args below meth c H locs cells slots Qf G ls hC hD hn hl hr)
theorem aw_if_gt {x : Int32} {off : Int} (tgt : Nat) (ht : (pc : Int) + off = (tgt : Int)) (d : decode M.2.1 pc = .ok (.ifCond .gt off, 3)) (kt : 0 < x → AW Sc M tgt lv st K μ n Q) (kf : ¬ 0 < x → AW Sc M (pc + 3) lv st K μ n Q) : AW Sc M pc lv (.int x :: st) K μ n Q :=
  fun p l e R s m args below meth c H locs cells slots Qf G ls hC hD hn hl hr => lv_if_gt (tgt := tgt) hC.1 hC.2.1 d ht (fun z => kt z p l e R s m args below meth c H locs cells slots Qf G ls hC hD hn hl hr) (fun z => kf z p l e R s m args below meth c H locs cells slots Qf G ls hC hD hn hl hr)
theorem aw_icmp_gt {x y : Int32} {off : Int} (tgt : Nat) (ht : (pc : Int) + off = (tgt : Int)) (d : decode M.2.1 pc = .ok (.if_icmp .gt off, 3)) (kt : y < x → AW Sc M tgt lv st K μ n Q) (kf : ¬ y < x → AW Sc M (pc + 3) lv st K μ n Q) : AW Sc M pc lv (.int y :: .int x :: st) K μ n Q :=
  fun p l e R s m args below meth c H locs cells slots Qf G ls hC hD hn hl hr => lv_icmp_gt (tgt := tgt) hC.1 hC.2.1 d ht (fun z => kt z p l e R s m args below meth c H locs cells slots Qf G ls hC hD hn hl hr) (fun z => kf z p l e R s m args below meth c H locs cells slots Qf G ls hC hD hn hl hr)
theorem aw_if_le {x : Int32} {off : Int} (tgt : Nat) (ht : (pc : Int) + off = (tgt : Int)) (d : decode M.2.1 pc = .ok (.ifCond .le off, 3)) (kt : x ≤ 0 → AW Sc M tgt lv st K μ n Q) (kf : ¬ x ≤ 0 → AW Sc M (pc + 3) lv st K μ n Q) : AW Sc M pc lv (.int x :: st) K μ n Q :=
  fun p l e R s m args below meth c H locs cells slots Qf G ls hC hD hn hl hr => lv_if_le (tgt := tgt) hC.1 hC.2.1 d ht (fun z => kt z p l e R s m args below meth c H locs cells slots Qf G ls hC hD hn hl hr) (fun z => kf z p l e R s m args below meth c H locs cells slots Qf G ls hC hD hn hl hr)
theorem aw_icmp_le {x y : Int32} {off : Int} (tgt : Nat) (ht : (pc : Int) + off = (tgt : Int)) (d : decode M.2.1 pc = .ok (.if_icmp .le off, 3)) (kt : x ≤ y → AW Sc M tgt lv st K μ n Q) (kf : ¬ x ≤ y → AW Sc M (pc + 3) lv st K μ n Q) : AW Sc M pc lv (.int y :: .int x :: st) K μ n Q :=
  fun p l e R s m args below meth c H locs cells slots Qf G ls hC hD hn hl hr => lv_icmp_le (tgt := tgt) hC.1 hC.2.1 d ht (fun z => kt z p l e R s m args below meth c H locs cells slots Qf G ls hC hD hn hl hr) (fun z => kf z p l e R s m args below meth c H locs cells slots Qf G ls hC hD hn hl hr)
theorem aw_goto {off : Int} (tgt : Nat) (ht : (pc : Int) + off = (tgt : Int)) (d : decode M.2.1 pc = .ok (.goto off, 3)) (h : AW Sc M tgt lv st K μ n Q) : AW Sc M pc lv st K μ n Q :=
  fun p l e R s m args below meth c H locs cells slots Qf G ls hC hD hn hl hr => lv_goto (tgt := tgt) hC.1 hC.2.1 d ht (h p l e R s m args below meth c H locs cells slots Qf G ls hC hD hn hl hr)
theorem aw_ifnull_r {q : Nat} {off : Int} (d : decode M.2.1 pc = .ok (.ifnull off, 3)) (h : AW Sc M (pc + 3) lv st K μ n Q) : AW Sc M pc lv (.ref q :: st) K μ n Q :=
  fun p l e R s m args below meth c H locs cells slots Qf G ls hC hD hn hl hr => lv_ifnull hC.1 hC.2.1 d (h p l e R s m args below meth c H locs cells slots Qf G ls hC hD hn hl hr)
theorem aw_ifnull_n {off : Int} (tgt : Nat) (ht : (pc : Int) + off = (tgt : Int)) (d : decode M.2.1 pc = .ok (.ifnull off, 3)) (h : AW Sc M tgt lv st K μ n Q) : AW Sc M pc lv (.null :: st) K μ n Q :=
  fun p l e R s m args below meth c H locs cells slots Qf G ls hC hD hn hl hr => lv_ifnullN (tgt := tgt) hC.1 hC.2.1 d ht (h p l e R s m args below meth c H locs cells slots Qf G ls hC hD hn hl hr)
theorem aw_tabOut {x : Int32} {dflt lo hi : Int} {offs : Array Int} {len : Nat} (tgt : Nat) (hx : x.toInt < lo ∨ hi < x.toInt) (ht : (pc : Int) + dflt = (tgt : Int)) (d : decode M.2.1 pc = .ok (.tableswitch dflt lo hi offs, len)) (h : AW Sc M tgt lv st K μ n Q) : AW Sc M pc lv (.int x :: st) K μ n Q :=
  fun p l e R s m args below meth c H locs cells slots Qf G ls hC hD hn hl hr => lv_tableOut (tgt := tgt) hC.1 hC.2.1 d hx ht (h p l e R s m args below meth c H locs cells slots Qf G ls hC hD hn hl hr)
theorem aw_tabIn {x : Int32} {dflt lo hi off : Int} {offs : Array Int} {len : Nat} (tgt : Nat) (h1 : ¬ x.toInt < lo) (h2 : ¬ hi < x.toInt) (ho : offs[(x.toInt - lo).toNat]? = some off) (ht : (pc : Int) + off = (tgt : Int)) (d : decode M.2.1 pc = .ok (.tableswitch dflt lo hi offs, len)) (h : AW Sc M tgt lv st K μ n Q) : AW Sc M pc lv (.int x :: st) K μ n Q :=
  fun p l e R s m args below meth c H locs cells slots Qf G ls hC hD hn hl hr => lv_tableIn (tgt := tgt) hC.1 hC.2.1 d h1 h2 ho ht (h p l e R s m args below meth c H locs cells slots Qf G ls hC hD hn hl hr)
theorem aw_ireturn {x : Int32} (d : decode M.2.1 pc = .ok (.ireturn, 1)) (hr : ∃ ty, M.2.2.2.1 = some ty ∧ narrow ty (.int x) = .int x) (hq : Q (some (.int x)) K μ) : AW Sc M pc lv [.int x] K μ n Q :=
  fun _ _ _ _ _ _ _ _ _ _ H locs cells slots _ _ ls _ hD hn _ h => h (some (.int x)) pc ls H locs cells slots K μ ⟨d, hr⟩ hq hD ⟨by omega, by omega⟩
theorem aw_iret {x : Int32} (d : decode M.2.1 pc = .ok (.ireturn, 1)) (hr : M.2.2.2.1 = some .int) (hq : Q (some (.int x)) K μ) : AW Sc M pc lv [.int x] K μ n Q := aw_ireturn d ⟨.int, hr, rfl⟩ hq
theorem aw_lreturn {x : Int64} (d : decode M.2.1 pc = .ok (.lreturn, 1)) (hr : M.2.2.2.1 = some .long) (hq : Q (some (.long x)) K μ) : AW Sc M pc lv [.long x] K μ n Q :=
  fun _ _ _ _ _ _ _ _ _ _ H locs cells slots _ _ ls _ hD hn _ h => h (some (.long x)) pc ls H locs cells slots K μ ⟨d, hr⟩ hq hD ⟨by omega, by omega⟩
theorem aw_return (d : decode M.2.1 pc = .ok (.return_, 1)) (hr : M.2.2.2.1 = none) (hq : Q none K μ) : AW Sc M pc lv [] K μ n Q :=
  fun _ _ _ _ _ _ _ _ _ _ H locs cells slots _ _ ls _ hD hn _ h => h none pc ls H locs cells slots K μ ⟨d, hr⟩ hq hD ⟨by omega, by omega⟩
end ARules
end
section
/-! THE ABSTRACT MACHINE, 5: fields, arrays, new cells, the JDK's natives -/
/-- field k of the class ci, reached from own's pool entry idx -/
def FLk (own : String) (idx ci k : Nat) : Prop := ∃ (C : String) (T : u_T) (N : Nat), cls13[ci]? = some (C, T, N) ∧ k < N ∧ nF ci = N ∧ Cond.fieldLink own idx (T k).1 (T k).2.1 (T k).2.2.1 ∈ ws0 ∧ (∀ w ∈ u_ws C T N, w ∈ ws0)
/-- .. and written there (fin: it is final, and this is its own constructor) -/
def FPk (own nm : String) (idx ci k : Nat) : Prop := ∃ (C : String) (T : u_T) (N : Nat), cls13[ci]? = some (C, T, N) ∧ k < N ∧ nF ci = N ∧ Cond.fieldLink own idx (T k).1 (T k).2.1 (T k).2.2.1 ∈ ws0 ∧ (∀ w ∈ u_ws C T N, w ∈ ws0) ∧
  (∀ k, k < N → parseFieldDescriptor (T k).2.2.1 = some (tyF ci k)) ∧ (∀ a, a < N → ∀ b, b < N → a ≠ b → (T a).2.1 ≠ (T b).2.1) ∧ ((T k).2.2.2 = false ∨ ((T k).2.2.2 = true ∧ nm = "<init>" ∧ (T k).1 = own))
section AHeap
variable {Sc : SCR} {M : MD} {pc idx ci k q : Nat} {lv : List (Nat × Value)} {st : List Value} {K : List kd} {μ : Mem} {n : Nat × Nat} {Q : PQ}
theorem aw_get0 (hf : FLk M.1.cls idx ci k) (hK : K[q]? = some (.inl ci)) {t : Nat} (ht : ftc (tyF ci k) = t) {v : Value} (hv : ∀ ad, fv ad t μ q k = cv ad v) (d : decode M.2.1 pc = .ok (.getfield idx, 3))
    (h : AW Sc M (pc + 3) lv (v :: st) K μ n Q) : AW Sc M pc lv (.ref q :: st) K μ n Q := by
  intro p l e R s m args below meth c H locs cells slots Qf G ls hC hD hn hl hr
  obtain ⟨C, T, N, hc, hk, hN, hlk, hin⟩ := hf
  refine va_get (C := C) (T := T) (N := N) hC.1 hC.2.1 hC.2.2.2.2.1 hin hC.2.2.2.1 hD.1 hD.2.1 q (wl_get hK) hc k hk (hC.2.2.2.2.1 _ hlk) (fun _ h9 => h9) (fls_get (by rw [hN]; exact hk)) d ?_
  rw [ht, hv]
  exact h p l e R s m args below meth c H locs cells slots Qf G ls hC hD hn hl hr
theorem aw_getI (hf : FLk M.1.cls idx ci k) (hK : K[q]? = some (.inl ci)) (ht : ftc (tyF ci k) = 0) (d : decode M.2.1 pc = .ok (.getfield idx, 3)) (h : AW Sc M (pc + 3) lv (.int (μ.1 q k) :: st) K μ n Q) : AW Sc M pc lv (.ref q :: st) K μ n Q := aw_get0 hf hK ht (fun _ => rfl) d h
theorem aw_getJ (hf : FLk M.1.cls idx ci k) (hK : K[q]? = some (.inl ci)) (ht : ftc (tyF ci k) = 1) (d : decode M.2.1 pc = .ok (.getfield idx, 3)) (h : AW Sc M (pc + 3) lv (.long (μ.2.1 q k) :: st) K μ n Q) : AW Sc M pc lv (.ref q :: st) K μ n Q := aw_get0 hf hK ht (fun _ => rfl) d h
theorem aw_getR {r : Nat} (hf : FLk M.1.cls idx ci k) (hK : K[q]? = some (.inl ci)) (ht : ftc (tyF ci k) = 2) (hr : μ.2.2 q k = some r) (d : decode M.2.1 pc = .ok (.getfield idx, 3)) (h : AW Sc M (pc + 3) lv (.ref r :: st) K μ n Q) : AW Sc M pc lv (.ref q :: st) K μ n Q := aw_get0 hf hK ht (fun ad => by simp [fv, hr, va_rf, cv]) d h
/-- a store into the cell at place q -/
theorem Dy.put {G : GT} {s : State} {H H1 : Heap} {locs : List Loc} {μ' : Mem} {k0 : kd} (hD : Dy Sc G s H locs K μ) (hK : K[q]? = some k0) (he : va_at G.2.2.1 cls13 (G.1 q, cellE G k0 μ' q) H1) (ho : ∀ q', q' ≠ q → ∀ k, cellE G k μ' q' = cellE G k μ q') (z : H1.size = H.size) (oq : ∀ a, a ≠ G.1 q → H1[a]? = H[a]?) (i : Nat) : Dy Sc G s H1 (locs ++ [⟨G.1 q, i⟩]) K μ' := by
  have hap := hD.D
  obtain ⟨d1, d2, dS, d3, d4, d5, d6, d7⟩ := hD
  refine ⟨d1, ?_, dS.put z oq (hap.2 q _ (wl_get hK)), by rw [z]; exact d3, d4, d5, d6, d7⟩
  rw [← wl_set hK rfl ho]
  exact d2.set hap (wl_get hK) he oq
theorem aw_put0 {nmM : String} (hf : FPk M.1.cls M.1.name idx ci k) (hK : K[q]? = some (.inl ci)) {v : Value} {μ' : Mem} (hn1 : ∀ ad, narrow (tyF ci k) (cv ad v) = cv ad v) (hfit : ∀ ad, fits (tyF ci k) (cv ad v) = true) (hset : ∀ ad, (fls ad ci μ q).set k (cv ad v) = fls ad ci μ' q) (ho : ∀ (G : GT) q', q' ≠ q → ∀ k, cellE G k μ' q' = cellE G k μ q') (d : decode M.2.1 pc = .ok (.putfield idx, 3))
    (h : AW Sc M (pc + 3) lv st K μ' n Q) : AW Sc M pc lv (v :: .ref q :: st) K μ n Q := by
  intro p l e R s m args below meth c H locs cells slots Qf G ls hC hD hn hl hr
  obtain ⟨C, T, N, hc, hk, hN, hlk, hin, hty, hnm, hfin⟩ := hf
  obtain ⟨hx, hb, hml, hown, hts, hret, hlocks, hname, hR1, hR2⟩ := id hC
  have hap := va_apart (own := M.1.cls) hts hin (tyF ci) hty hnm hD.1 hc
  obtain ⟨r, h1, cell, q1, q2, q3, q4⟩ := hD.2.1 q _ (wl_get hK)
  cases h1.symm.trans hc
  obtain ⟨hS, hfc, kC, hkC, hkind⟩ := hD.1.1 ci _ hc
  obtain ⟨cf, kf, fi, f, hi, hsl⟩ := hS k hk
  have hst := (u_facts hfc hkC (u_lays hts hin hk) hi).1
  have hlay := hts _ (hin _ (u_in_lay hk))
  unfold u_lay at hlay
  have fin : ∀ H' : Heap, H'[G.1 q]? = some (cell.setSlot f.slot (cv G.1 v)) → H'.size = H.size → (∀ a, a ≠ G.1 q → H'[a]? = H[a]?) → W p l e R s m args below meth c H' (locs ++ [⟨G.1 q, f.slot⟩]) cells slots Qf (F0 m (pc + 3) ls (st.map (cv G.1))) := by
    intro H' e1 e2 e3
    refine h p l e R s m args below meth c H' _ cells slots Qf G ls hC (hD.put hK ⟨_, hc, ?_⟩ (ho G) e2 e3 f.slot) hn hl hr
    rw [← hset G.1]
    rw [hsl] at e1
    exact t_OB.to (V := updV (vp_V (fls G.1 ci μ q)) k (cv G.1 v)) ⟨_, e1, q2, q3, t_set q4 hap hk _⟩ (fun j _ => vp_updV_set (by rw [fls_len, hN]; exact hk) _ j)
  rcases hfin with hfin | ⟨hfin, hini, hdecl⟩
  · rw [if_neg (by rw [hfin]; decide)] at hlay
    have h6 := u_store hfc hkC hkind hlay hi (hty k hk) (hn1 G.1) (hfit G.1)
    exact W.putK hx hb (f := f) ⟨hown, hts _ hlk, ⟨_, _, _, hi⟩, hst⟩ (by rw [q2]; exact h6) q1 q3 (by rw [hsl]; exact k2_hasslot (q4 k hk)) rfl rfl d fin
  · rw [if_pos hfin] at hlay
    have hcf : m.cls = cf := by
      obtain ⟨_, _, c', _, _, _, -, -, hf', -, -, -, hown2, -⟩ := Cond.laysFinal_spec hlay
      have e1 : c' = cf := by have := hi.symm.trans hf'; simp at this; exact this.1.symm
      rw [hdecl] at hown2
      rw [← e1]; exact Option.some.inj (hown.symm.trans hown2)
    have h6 := u_fits hfc hkC hkind (Or.inr hlay) hi (hty k hk) (hn1 G.1) (hfit G.1)
    exact W.putFinK hx hb hown (hts _ hlk) hi hst hcf (hname.trans hini) (by rw [q2]; exact h6) q1 q3 (by rw [hsl]; exact k2_hasslot (q4 k hk)) rfl rfl d fin
theorem FLk.lt {own : String} (h : FLk own idx ci k) : k < nF ci := by
  obtain ⟨C, T, N, -, hk, hN, -⟩ := h
  rw [hN]; exact hk
theorem FPk.lt {own nm : String} (h : FPk own nm idx ci k) : k < nF ci := by
  obtain ⟨C, T, N, -, hk, hN, -⟩ := h
  rw [hN]; exact hk
theorem aw_putI {x : Int32} (hf : FPk M.1.cls M.1.name idx ci k) (hK : K[q]? = some (.inl ci)) (ht : ftc (tyF ci k) = 0) (hn1 : narrow (tyF ci k) (.int x) = .int x) (hfit : fits (tyF ci k) (.int x) = true) (d : decode M.2.1 pc = .ok (.putfield idx, 3)) (h : AW Sc M (pc + 3) lv st K (pI μ q k x) n Q) : AW Sc M pc lv (.int x :: .ref q :: st) K μ n Q :=
  aw_put0 (nmM := "") hf hK (fun _ => hn1) (fun _ => hfit) (fun _ => fls_pI hf.lt ht) (fun _ _ hq => cell_pI μ k x hq) d h
theorem aw_putJ {x : Int64} (hf : FPk M.1.cls M.1.name idx ci k) (hK : K[q]? = some (.inl ci)) (ht : tyF ci k = .long) (d : decode M.2.1 pc = .ok (.putfield idx, 3)) (h : AW Sc M (pc + 3) lv st K (pJ μ q k x) n Q) : AW Sc M pc lv (.long x :: .ref q :: st) K μ n Q :=
  aw_put0 (nmM := "") hf hK (fun _ => by rw [ht]; rfl) (fun _ => by rw [ht]; rfl) (fun _ => fls_pJ hf.lt (by rw [ht]; rfl)) (fun _ _ hq => cell_pJ μ k x hq) d h
theorem aw_putR {x : Nat} (hf : FPk M.1.cls M.1.name idx ci k) (hK : K[q]? = some (.inl ci)) (ht : ftc (tyF ci k) = 2) (hn1 : ∀ a, narrow (tyF ci k) (.ref a) = .ref a) (hfit : ∀ a, fits (tyF ci k) (.ref a) = true) (d : decode M.2.1 pc = .ok (.putfield idx, 3)) (h : AW Sc M (pc + 3) lv st K (pR μ q k (some x)) n Q) : AW Sc M pc lv (.ref x :: .ref q :: st) K μ n Q :=
  aw_put0 (nmM := "") hf hK (fun ad => hn1 (ad x)) (fun ad => hfit (ad x)) (fun _ => fls_pR hf.lt ht) (fun _ _ hq => cell_pR μ k (some x) hq) d h
/-! arrays -/
theorem aw_iaload {i : Int32} {N : Nat} (hK : K[q]? = some (.inr (0, N))) (hi : vp_in i N) (d : decode M.2.1 pc = .ok (.iaload, 1)) (h : AW Sc M (pc + 1) lv (.int (μ.1 q i.toNatClampNeg) :: st) K μ n Q) : AW Sc M pc lv (.int i :: .ref q :: st) K μ n Q :=
  fun p l e R s m args below meth c H locs cells slots Qf G ls hC hD hn hl hr => va_iald hC.1 hC.2.1 hD.1 hD.2.1 q 0 (wl_get hK) rfl hi d (h p l e R s m args below meth c H locs cells slots Qf G ls hC hD hn hl hr)
theorem aw_caload {i : Int32} {N : Nat} (hK : K[q]? = some (.inr (2, N))) (hi : vp_in i N) (d : decode M.2.1 pc = .ok (.caload, 1)) (h : AW Sc M (pc + 1) lv (.int (μ.1 q i.toNatClampNeg) :: st) K μ n Q) : AW Sc M pc lv (.int i :: .ref q :: st) K μ n Q :=
  fun p l e R s m args below meth c H locs cells slots Qf G ls hC hD hn hl hr => va_cald hC.1 hC.2.1 hD.1 hD.2.1 q 2 (wl_get hK) rfl hi d (h p l e R s m args below meth c H locs cells slots Qf G ls hC hD hn hl hr)
theorem aw_laload {i : Int32} {N : Nat} (hK : K[q]? = some (.inr (1, N))) (hi : vp_in i N) (d : decode M.2.1 pc = .ok (.laload, 1)) (h : AW Sc M (pc + 1) lv (.long (μ.2.1 q i.toNatClampNeg) :: st) K μ n Q) : AW Sc M pc lv (.int i :: .ref q :: st) K μ n Q :=
  fun p l e R s m args below meth c H locs cells slots Qf G ls hC hD hn hl hr => va_lald hC.1 hC.2.1 hD.1 hD.2.1 q 1 (wl_get hK) rfl hi d (h p l e R s m args below meth c H locs cells slots Qf G ls hC hD hn hl hr)
theorem aw_aaload {i : Int32} {N t r : Nat} {C : String} (hK : K[q]? = some (.inr (t + 3, N))) (ht : ∀ dA, (tyl dA)[t + 3]? = some (dA (t + 3), .object C)) (hi : vp_in i N) (hr : μ.2.2 q i.toNatClampNeg = some r) (d : decode M.2.1 pc = .ok (.aaload, 1)) (h : AW Sc M (pc + 1) lv (.ref r :: st) K μ n Q) : AW Sc M pc lv (.int i :: .ref q :: st) K μ n Q := by
  intro p l e R s m args below meth c H locs cells slots Qf G ls hC hD hn hl hr'
  refine va_aldq hC.1 hC.2.1 hD.1 hD.2.1 q (t + 3) (wl_get hK) (ht _) hi d ?_
  rw [hr]
  exact h p l e R s m args below meth c H locs cells slots Qf G ls hC hD hn hl hr'
theorem aw_alen {N t : Nat} {ty : FieldType} (hK : K[q]? = some (.inr (t, N))) (ht : ∀ dA, (tyl dA)[t]? = some (dA t, ty)) (d : decode M.2.1 pc = .ok (.arraylength, 1)) (h : AW Sc M (pc + 1) lv (.int (nI N) :: st) K μ n Q) : AW Sc M pc lv (.ref q :: st) K μ n Q :=
  fun p l e R s m args below meth c H locs cells slots Qf G ls hC hD hn hl hr => va_alen hC.1 hC.2.1 hD.1 hD.2.1 q t (wl_get hK) (ht _) (v := nI N) rfl d (h p l e R s m args below meth c H locs cells slots Qf G ls hC hD hn hl hr)
theorem arr_put {cA : ClassId} {N i : Nat} {f g : Nat → Value} {v : Value} {H1 : Heap} {a : Nat} (e : H1[a]? = some ((arrV cA N f).setSlot i v)) (hg : ∀ j, g j = if j = i then v else f j) : H1[a]? = some (arrV cA N g) := by
  rw [e, arrV_store]
  congr 2
  funext j
  exact (hg j).symm
theorem aw_iastore {i x : Int32} {N : Nat} (hK : K[q]? = some (.inr (0, N))) (hi : vp_in i N) (d : decode M.2.1 pc = .ok (.iastore, 1)) (h : AW Sc M (pc + 1) lv st K (pI μ q i.toNatClampNeg x) n Q) : AW Sc M pc lv (.int x :: .int i :: .ref q :: st) K μ n Q := by
  intro p l e R s m args below meth c H locs cells slots Qf G ls hC hD hn hl hr
  refine W.iast hC.1 hC.2.1 (hD.2.1 q _ (wl_get hK)) ((hD.1.2 0 _ rfl).1 N (fun j => .int (μ.1 q j))) (fun q => by cases q) (by show ¬ (i < 0 ∨ (arrV _ _ _).slots.size ≤ _); rw [arrV_size]; exact hi) rfl rfl d fun H1 e1 z oq => ?_
  refine h p l e R s m args below meth c H1 _ cells slots Qf G ls hC (hD.put hK ?_ (fun _ hq => cell_pI μ _ x hq) z oq _) hn hl hr
  show H1[G.1 q]? = some (arrV (G.2.1 0) N (fun j => .int ((pI μ q i.toNatClampNeg x).1 q j)))
  exact arr_put (f := fun j => .int (μ.1 q j)) e1 (fun j => by simp only [pI, va_up, upd, if_true]; split <;> rfl)
theorem aw_castore {i x : Int32} {N : Nat} (hK : K[q]? = some (.inr (2, N))) (hi : vp_in i N) (hx : narrow .char (.int x) = .int x) (d : decode M.2.1 pc = .ok (.castore, 1)) (h : AW Sc M (pc + 1) lv st K (pI μ q i.toNatClampNeg x) n Q) : AW Sc M pc lv (.int x :: .int i :: .ref q :: st) K μ n Q := by
  intro p l e R s m args below meth c H locs cells slots Qf G ls hC hD hn hl hr
  refine W.cast hC.1 hC.2.1 (hD.2.1 q _ (wl_get hK)) ((hD.1.2 2 _ rfl).1 N (fun j => .int (μ.1 q j))) (fun q => by cases q) (by show ¬ (i < 0 ∨ (arrV _ _ _).slots.size ≤ _); rw [arrV_size]; exact hi) rfl rfl d fun H1 e1 z oq => ?_
  refine h p l e R s m args below meth c H1 _ cells slots Qf G ls hC (hD.put hK ?_ (fun _ hq => cell_pI μ _ x hq) z oq _) hn hl hr
  rw [hx] at e1
  show H1[G.1 q]? = some (arrV (G.2.1 2) N (fun j => .int ((pI μ q i.toNatClampNeg x).1 q j)))
  exact arr_put (f := fun j => .int (μ.1 q j)) e1 (fun j => by simp only [pI, va_up, upd, if_true]; split <;> rfl)
theorem aw_lastore {i : Int32} {x : Int64} {N : Nat} (hK : K[q]? = some (.inr (1, N))) (hi : vp_in i N) (d : decode M.2.1 pc = .ok (.lastore, 1)) (h : AW Sc M (pc + 1) lv st K (pJ μ q i.toNatClampNeg x) n Q) : AW Sc M pc lv (.long x :: .int i :: .ref q :: st) K μ n Q := by
  intro p l e R s m args below meth c H locs cells slots Qf G ls hC hD hn hl hr
  refine W.last hC.1 hC.2.1 (hD.2.1 q _ (wl_get hK)) ((hD.1.2 1 _ rfl).1 N (fun j => .long (μ.2.1 q j))) (fun q => by cases q) (by show ¬ (i < 0 ∨ (arrV _ _ _).slots.size ≤ _); rw [arrV_size]; exact hi) rfl rfl d fun H1 e1 z oq => ?_
  refine h p l e R s m args below meth c H1 _ cells slots Qf G ls hC (hD.put hK ?_ (fun _ hq => cell_pJ μ _ x hq) z oq _) hn hl hr
  show H1[G.1 q]? = some (arrV (G.2.1 1) N (fun j => .long ((pJ μ q i.toNatClampNeg x).2.1 q j)))
  exact arr_put (f := fun j => .long (μ.2.1 q j)) e1 (fun j => by simp only [pJ, va_up, vp_updL, if_true]; split <;> rfl)
theorem aw_aastore {i : Int32} {N t r cr : Nat} {C C' : String} (hK : K[q]? = some (.inr (t + 3, N))) (ht : ∀ dA, (tyl dA)[t + 3]? = some (dA (t + 3), .object C)) (hi : vp_in i N) (hKr : K[r]? = some (.inl cr)) (hcr : (cls13[cr]?).map (fun r => r.1) = some C') (hca : C' = C ∨ (C = "EndlessTug$Man" ∧ C' ∈ castL)) (d : decode M.2.1 pc = .ok (.aastore, 1))
    (h : AW Sc M (pc + 1) lv st K (pR μ q i.toNatClampNeg (some r)) n Q) : AW Sc M pc lv (.ref r :: .int i :: .ref q :: st) K μ n Q := by
  intro p l e R s m args below meth c H locs cells slots Qf G ls hC hD hn hl hr
  have hlt : i.toNatClampNeg < N := Nat.not_le.mp fun q => hi (Or.inr q)
  have h0 : ¬ i < 0 := fun q => hi (Or.inl q)
  cases hc : cls13[cr]? with
  | none => rw [hc] at hcr; cases hcr
  | some rc =>
    rw [hc] at hcr
    cases hcr
    obtain ⟨r', hr', cellV, g1, g2, g3, -⟩ := hD.2.1 r _ (wl_get hKr)
    have hcls := (hD.1.1 cr rc hc).2
    obtain ⟨kA, comp, k1, k2, k3, -⟩ := (hD.1.2 (t + 3) _ (ht _)).2
    obtain ⟨kE, hkE, -⟩ := Vm.findClass_spec k3
    have hasg : s.vm.assignable (G.2.2.1.1 cr) comp = true := by
      rcases hca with hca | ⟨rfl, hca⟩
      · have e1 : s.vm.findClass rc.1 = some comp := by rw [show rc.1 = C from hca]; exact k3
        cases hcls.1.symm.trans e1
        exact va_assign hcls
      · obtain ⟨c0, t1, f1, f2, f3⟩ := Cond.castable_spec (va_Nw.use (A := args) rfl (hD.2.2.2.2.2.2.2.2.2.2.2.2.2.1 _ hca))
        cases hcls.1.symm.trans f1
        cases k3.symm.trans f2
        exact f3
    obtain ⟨kC, hkC, -⟩ := hcls.2
    refine W.aast hC.1 hC.2.1 (hD.2.1 q _ (wl_get hK)) (fun q h => by cases h) (fun h => by cases h) k1 k2 rfl hkE ⟨h0, by show _ < (arrV _ _ _).slots.size; rw [arrV_size]; exact hlt⟩ g1 (fun q h => by rw [g3] at h; cases h) (by rw [g2]; exact hkC) (by rw [g2]; exact hasg) rfl rfl d fun H1 e1 z oq => ?_
    refine h p l e R s m args below meth c H1 _ cells slots Qf G ls hC (hD.put hK ?_ (fun _ hq => cell_pR μ _ (some r) hq) z oq _) hn hl hr
    show H1[G.1 q]? = some (arrV (G.2.1 (t + 3)) N (fun j => va_rf (((pR μ q i.toNatClampNeg (some r)).2.2 q j).map G.1)))
    exact arr_put (f := fun j => va_rf ((μ.2.2 q j).map G.1)) e1 (fun j => by simp only [pR, va_up, if_true]; split <;> rfl)
/-! new cells -/
theorem Dy.push {G : GT} {s : State} {H H1 : Heap} {locs : List Loc} {k0 : kd} {μ' : Mem} (hD : Dy Sc G s H locs K μ) (hl : K.length < 400) (he : va_at G.2.2.1 cls13 (H.size, cellE G k0 μ' K.length) H1) (ho : ∀ q', q' ≠ K.length → ∀ k, cellE G k μ' q' = cellE G k μ q') (z : H1.size = H.size + 1) (oq : ∀ a, a < H.size → H1[a]? = H[a]?) : Dy Sc G s H1 locs (K ++ [k0]) μ' := by
  obtain ⟨d1, d2, dS, d3, d4, d5, d6, d7⟩ := hD
  refine ⟨d1, ?_, ⟨Nat.le_trans dS.1 (by omega), fun x h1 h2 => (oq x (Nat.lt_of_lt_of_le h1 dS.1)).trans (dS.2.1 x h1 h2), dS.2.2⟩, by rw [z, d3, List.length_append, List.length_singleton]; omega, d4, by rw [List.length_append, List.length_singleton]; omega, d6, d7⟩
  rw [wl_push ho]
  refine (d2.kept (fun k x hx => oq x.1 ((d2 k x hx).lt))).app (fun k x hx => ?_)
  have hz : k < 1 := (List.getElem?_eq_some_iff.mp hx).1
  rw [show k = 0 by omega] at hx
  cases hx
  rw [d6 _ hl, ← d3]
  exact he
def NWk (own : String) (idx ci : Nat) : Prop := ∃ (C : String) (T : u_T) (N : Nat), cls13[ci]? = some (C, T, N) ∧ nF ci = N ∧ (∀ w ∈ ([.classLink own idx C, .instantiable C N, .initialized C] : List Cond), w ∈ ws0) ∧ (∀ w ∈ u_ws C T N, w ∈ ws0) ∧ (∀ k, k < N → parseFieldDescriptor (T k).2.2.1 = some (tyF ci k)) ∧ (∀ k, k < N → ∀ ad p, defaultValue (tyF ci k) = fv ad (ftc (tyF ci k)) (p0 (fun _ _ => 0, fun _ _ => 0, fun _ _ => none) p) p k)
theorem fv_p0 (ad : Nat → Nat) (t : Nat) (μ μ' : Mem) (p k : Nat) : fv ad t (p0 μ p) p k = fv ad t (p0 μ' p) p k := by
  simp [fv, p0, va_up]
theorem aw_new (hk : NWk M.1.cls idx ci) (hl : K.length < 400) (hn1 : 1 ≤ n.1 ∧ nF ci ≤ n.2) (d : decode M.2.1 pc = .ok (.new idx, 3)) (h : AW Sc M (pc + 3) lv (.ref K.length :: st) (K ++ [.inl ci]) (p0 μ K.length) (n.1 - 1, n.2 - nF ci) Q) : AW Sc M pc lv st K μ n Q := by
  intro p l e R s m args below meth c H locs cells slots Qf G ls hC hD hn hl' hr
  obtain ⟨C, T, N, hc, hN, hw, hin, hty, hdf⟩ := hk
  have hKn := hD.1.1 ci _ hc
  have hts := hC.2.2.2.2.1
  refine W.newcK (C := C) (n := N) hC.1 hC.2.1 hC.2.2.2.1 (hts _ (hw _ (by simp))) (hts _ (hw _ (by simp))) (hts _ (hw _ (by simp))) rfl d (by omega) (by omega) hKn.2.1 rfl fun H1 kC hkC e1 z1 o1 => ?_
  have hD1 : Dy Sc G s H1 locs (K ++ [.inl ci]) (p0 μ K.length) := by
    refine hD.push hl ?_ (fun _ hq => cell_p0 μ hq) z1 o1
    refine ⟨_, hc, (u_born (tyF ci) hts hin hKn hkC e1 hty).to (fun j hj => ?_)⟩
    show _ = vp_V (fls G.1 ci (p0 μ K.length) K.length) j
    rw [vp_V, List.getD_eq_getElem?_getD, fls_get (by rw [hN]; exact hj), hdf j hj G.1 K.length]
    exact fv_p0 _ _ _ _ _ _
  have ha : H.size = G.1 K.length := by rw [hD.2.2.2.2.2.2.1 _ hl, hD.2.2.2.1]
  show W p l e R s m args below meth c H1 locs (cells + 1) (slots + N) Qf (F0 m (pc + 3) ls (.ref H.size :: st.map (cv G.1)))
  rw [ha]
  exact h p l e R s m args below meth c H1 locs _ _ Qf G ls hC hD1 ⟨by show cells + 1 + (n.1 - 1) ≤ _; omega, by show slots + N + (n.2 - nF ci) ≤ _; omega⟩ hl' hr
theorem arrV_ext {cA : ClassId} {N : Nat} {f g : Nat → Value} (h : ∀ j, f j = g j) : arrV cA N f = arrV cA N g := by
  rw [show f = g from funext h]
theorem aw_newarr {atype : ArrayType} {t N : Nat} {x : Int32} (hw : Cond.arrayClass (newarray.typeOf atype) ∈ ws0) (ht : ∀ dA, (tyl dA)[t]? = some (dA t, newarray.typeOf atype)) (hra : ∀ U cA, va_RA U cA (newarray.typeOf atype) → U.vm.findClass ("[" ++ (newarray.typeOf atype).toString) = some cA) (hdv : ∀ (G : GT) cA p j, defaultValue (newarray.typeOf atype) = (match arrC G.1 t (p0 (fun _ _ => 0, fun _ _ => 0, fun _ _ => none) p) p with | .inl f => Value.int (f j) | .inr (.inl f) => .long (f j) | _ => .null) ∧ ∀ μ, vp_cell cA (N, arrC G.1 t (p0 μ p) p) = arrV cA N (fun _ => defaultValue (newarray.typeOf atype)))
    (hx : x = nI N) (hN : N < 1000) (hl : K.length < 400) (hn1 : 1 ≤ n.1 ∧ N ≤ n.2) (hby : N * componentBytes (newarray.typeOf atype) ≤ 536870912) (d : decode M.2.1 pc = .ok (.newarray atype, 2)) (h : AW Sc M (pc + 2) lv (.ref K.length :: st) (K ++ [.inr (t, N)]) (p0 μ K.length) (n.1 - 1, n.2 - N) Q) : AW Sc M pc lv (.int x :: st) K μ n Q := by
  intro p l e R s m args below meth c H locs cells slots Qf G ls hC hD hn hl' hr
  have hts := hC.2.2.2.2.1
  subst hx
  refine va_newaK hC.1 hC.2.1 (hts _ hw) rfl d rfl (nI_pos (by omega)) (nI_clamp (by omega)) hby (by omega) (by omega) rfl fun H1 cA e1 z1 o1 hAr hNm => ?_
  have hcA : cA = G.2.1 t := by
    have h9 := hra s _ (hD.1.2 t _ (ht _)).2
    rw [hNm] at h9
    exact Option.some.inj h9
  have hD1 : Dy Sc G s H1 locs (K ++ [.inr (t, N)]) (p0 μ K.length) := by
    refine hD.push hl ?_ (fun _ hq => cell_p0 μ hq) z1 o1
    show H1[H.size]? = some (vp_cell (G.2.1 t) (N, arrC G.1 t (p0 μ K.length) K.length))
    rw [(hdv G (G.2.1 t) K.length 0).2 μ, ← hcA]
    exact e1
  have ha : H.size = G.1 K.length := by rw [hD.2.2.2.2.2.2.1 _ hl, hD.2.2.2.1]
  show W p l e R s m args below meth c H1 locs (cells + 1) (slots + N) Qf (F0 m (pc + 2) ls (.ref H.size :: st.map (cv G.1)))
  rw [ha]
  exact h p l e R s m args below meth c H1 locs _ _ Qf G ls hC hD1 ⟨by show cells + 1 + (n.1 - 1) ≤ _; omega, by show slots + N + (n.2 - N) ≤ _; omega⟩ hl' hr
theorem aw_newI {N : Nat} {x : Int32} (hw : Cond.arrayClass .int ∈ ws0) (hx : x = nI N) (hN : N < 1000) (hl : K.length < 400) (hn1 : 1 ≤ n.1 ∧ N ≤ n.2) (d : decode M.2.1 pc = .ok (.newarray .int, 2)) (h : AW Sc M (pc + 2) lv (.ref K.length :: st) (K ++ [.inr (0, N)]) (p0 μ K.length) (n.1 - 1, n.2 - N) Q) : AW Sc M pc lv (.int x :: st) K μ n Q :=
  aw_newarr (atype := .int) (t := 0) hw (fun _ => rfl) (fun _ _ h => h) (fun G cA p j => ⟨by simp [arrC, p0, va_up]; rfl, fun μ => by simp [vp_cell, arrC, p0, va_up]; rfl⟩) hx hN hl hn1 (by show N * 4 ≤ _; omega) d h
theorem aw_newJ {N : Nat} {x : Int32} (hw : Cond.arrayClass .long ∈ ws0) (hx : x = nI N) (hN : N < 1000) (hl : K.length < 400) (hn1 : 1 ≤ n.1 ∧ N ≤ n.2) (d : decode M.2.1 pc = .ok (.newarray .long, 2)) (h : AW Sc M (pc + 2) lv (.ref K.length :: st) (K ++ [.inr (1, N)]) (p0 μ K.length) (n.1 - 1, n.2 - N) Q) : AW Sc M pc lv (.int x :: st) K μ n Q :=
  aw_newarr (atype := .long) (t := 1) hw (fun _ => rfl) (fun _ _ h => h) (fun G cA p j => ⟨by simp [arrC, p0, va_up]; rfl, fun μ => by simp [vp_cell, arrC, p0, va_up]; rfl⟩) hx hN hl hn1 (by show N * 8 ≤ _; omega) d h
theorem aw_newC {N : Nat} {x : Int32} (hw : Cond.arrayClass .char ∈ ws0) (hx : x = nI N) (hN : N < 1000) (hl : K.length < 400) (hn1 : 1 ≤ n.1 ∧ N ≤ n.2) (d : decode M.2.1 pc = .ok (.newarray .char, 2)) (h : AW Sc M (pc + 2) lv (.ref K.length :: st) (K ++ [.inr (2, N)]) (p0 μ K.length) (n.1 - 1, n.2 - N) Q) : AW Sc M pc lv (.int x :: st) K μ n Q :=
  aw_newarr (atype := .char) (t := 2) hw (fun _ => rfl) (fun _ _ h => h) (fun G cA p j => ⟨by simp [arrC, p0, va_up]; rfl, fun μ => by simp [vp_cell, arrC, p0, va_up]; rfl⟩) hx hN hl hn1 (by show N * 2 ≤ _; omega) d h
theorem aw_newQ {N t : Nat} {x : Int32} {C : String} (hw : Cond.classLink M.1.cls idx C ∈ ws0) (hC0 : C ∈ overL) (ht : ∀ dA, (tyl dA)[t + 3]? = some (dA (t + 3), .object C)) (hx : x = nI N) (hN : N < 1000) (hl : K.length < 400) (hn1 : 1 ≤ n.1 ∧ N ≤ n.2) (d : decode M.2.1 pc = .ok (.anewarray idx, 3)) (h : AW Sc M (pc + 3) lv (.ref K.length :: st) (K ++ [.inr (t + 3, N)]) (p0 μ K.length) (n.1 - 1, n.2 - N) Q) : AW Sc M pc lv (.int x :: st) K μ n Q := by
  intro p l e R s m args below meth c H locs cells slots Qf G ls hC hD hn hl' hr
  have hts := hC.2.2.2.2.1
  subst hx
  have hcl : (nI N).toNatClampNeg = N := nI_clamp (by omega)
  refine W.anew hC.1 hC.2.1 hC.2.2.2.1 (hts _ hw) (va_AO.use (hD.2.2.2.2.2.2.2.2.2.2.2.2.2.2 _ hC0)) rfl d rfl (nI_pos (by omega)) (by rw [hcl]; omega) (by omega) (by rw [hcl]; omega) fun cA kA comp f1 f2 f3 f4 => ?_
  rw [hcl]
  generalize hH1 : H.push ({ cls := cA, slots := Array.replicate N .null, vm := .none } : Cell) = H1
  have z1 : H1.size = H.size + 1 := by rw [← hH1, Array.size_push]
  have e1 : H1[H.size]? = some (arrV cA N (fun _ => .null)) := by rw [← hH1, Array.getElem?_push_size, ← arrV_new]
  have o1 : ∀ q : Nat, q < H.size → H1[q]? = H[q]? := fun q hq => by rw [← hH1, Array.getElem?_push, if_neg (Nat.ne_of_lt hq)]
  have hcA : cA = G.2.1 (t + 3) := by
    obtain ⟨kA2, comp2, -, -, -, h9⟩ := (hD.1.2 (t + 3) _ (ht _)).2
    rw [f1] at h9
    exact Option.some.inj h9
  have hD1 : Dy Sc G s H1 locs (K ++ [.inr (t + 3, N)]) (p0 μ K.length) := by
    refine hD.push hl ?_ (fun _ hq => cell_p0 μ hq) z1 o1
    show H1[H.size]? = some (arrV (G.2.1 (t + 3)) N (fun j => va_rf (((p0 μ K.length).2.2 K.length j).map G.1)))
    rw [← hcA, e1]
    exact congrArg some (arrV_ext (fun j => by simp [p0, va_up, va_rf]))
  have ha : H.size = G.1 K.length := by rw [hD.2.2.2.2.2.2.1 _ hl, hD.2.2.2.1]
  show W p l e R s m args below meth c H1 locs (cells + 1) (slots + N) Qf (F0 m (pc + 3) ls (.ref H.size :: st.map (cv G.1)))
  rw [ha]
  exact h p l e R s m args below meth c H1 locs _ _ Qf G ls hC hD1 ⟨by show cells + 1 + (n.1 - 1) ≤ _; omega, by show slots + N + (n.2 - N) ≤ _; omega⟩ hl' hr
end AHeap
end
section
/-! THE ABSTRACT MACHINE, 6: Object's constructor, arraycopy, String constants, statics, the script -/
section ANat
variable {Sc : SCR} {M : MD} {pc idx ci k q : Nat} {lv : List (Nat × Value)} {st : List Value} {K : List kd} {μ : Mem} {n : Nat × Nat} {Q : PQ}
theorem aw_objInit (hw : ∀ w ∈ ([.methodLink M.1.cls idx Lib.objectInit, .instanceMethod Lib.objectInit, .code Lib.objectInit ⟨#[0xb1]⟩ 1 none] : List Cond), w ∈ ws0) (h8 : (st.map fun v => v.category).sum ≤ 8) (hf : 1 ≤ M.2.2.2.2.1 ∧ 20 ≤ M.2.2.2.2.2) (d : decode M.2.1 pc = .ok (.invokespecial idx, 3)) (h : AW Sc M (pc + 3) lv st K μ n Q) : AW Sc M pc lv (.ref q :: st) K μ n Q := by
  intro p l e R s m args below meth c H locs cells slots Qf G ls hC hD hn hl hr
  obtain ⟨hx, hb, hml, hown, hts, -, -, -, hR1, hR2⟩ := id hC
  have h9 := cat_cv (ad := G.1) h8
  refine W.objInit hx hb hown (hts _ (hw _ (by simp))) (hts _ (hw _ (by simp))) (hts _ (hw _ (by simp))) rfl (by rw [hml]; exact hl.1) rfl d (Nat.le_trans hf.1 hR1) (by show 2 * 0 + _ + 12 ≤ _; omega) ?_
  exact h p l e R s m args below meth c H locs cells slots Qf G ls hC hD hn hl hr
theorem aw_copyJ {q0 : Nat} {sp dp x : Int32} {N0 N1 : Nat} (hw : ∀ w ∈ ([.methodLink M.1.cls idx arraycopyName, .native arraycopyName, .static arraycopyName, .initialized "java/lang/System"] : List Cond), w ∈ ws0) (hK0 : K[q0]? = some (.inr (1, N0))) (hK1 : K[q]? = some (.inr (1, N1)))
    (h1 : ¬ sp < 0) (h2 : ¬ dp < 0) (h3 : ¬ x < 0) (h4 : sp.toNatClampNeg + x.toNatClampNeg ≤ N0) (h5 : dp.toNatClampNeg + x.toNatClampNeg ≤ N1) (h8 : (st.map fun v => v.category).sum ≤ 8) (hf : 1 ≤ M.2.2.2.2.1 ∧ 60 ≤ M.2.2.2.2.2) (d : decode M.2.1 pc = .ok (.invokestatic idx, 3))
    (h : AW Sc M (pc + 3) lv st K (pRow μ q (va_cpy (μ.2.1 q0) (μ.2.1 q) sp.toNatClampNeg dp.toNatClampNeg x.toNatClampNeg)) n Q) : AW Sc M pc lv (.int x :: .int dp :: .ref q :: .int sp :: .ref q0 :: st) K μ n Q := by
  intro p l e R s m args below meth c H locs cells slots Qf G ls hC hD hn hl hr
  obtain ⟨hx, hb, hml, hown, hts, -, -, -, hR1, hR2⟩ := id hC
  have h9 := cat_cv (ad := G.1) h8
  have nn : ∀ z : Int32, ¬ z < 0 → z.toInt = (z.toNatClampNeg : Int) := by
    intro z hz
    have hz0 : (0 : Int) ≤ z.toInt := by
      have := Int32.not_lt.mp hz
      simpa using Int32.le_iff_toInt_le.mp this
    show z.toInt = ((z.toInt.toNat : Nat) : Int)
    omega
  intro T hT X
  have hc0 : H[G.1 q0]? = some (arrV (G.2.1 1) N0 (fun j => .long (μ.2.1 q0 j))) := hD.2.1 q0 _ (wl_get hK0)
  have hc1 : H[G.1 q]? = some (arrV (G.2.1 1) N1 (fun j => .long (μ.2.1 q j))) := hD.2.1 q _ (wl_get hK1)
  obtain ⟨-, k0, hk0, cm0, hkk0⟩ := (hD.1.2 1 _ rfl).1 N0 (fun j => .long (μ.2.1 q0 j))
  obtain ⟨-, k1, hk1, cm1, hkk1⟩ := (hD.1.2 1 _ rfl).1 N1 (fun j => .long (μ.2.1 q j))
  obtain ⟨vm', X', step⟩ := X.arraycopy (index := idx) hx hown (hts _ (hw _ (by simp))) (hts _ (hw _ (by simp))) (hts _ (hw _ (by simp))) (hts _ (hw _ (by simp))) (src := G.1 q0) (dst := G.1 q) (cs := arrV (G.2.1 1) N0 (fun j => .long (μ.2.1 q0 j))) (cd := arrV (G.2.1 1) N1 (fun j => .long (μ.2.1 q j))) (srcPos := sp) (destPos := dp) (n := x) (by rw [hT]; exact hc0) (by rw [hT]; exact hc1)
    (fun _ h => by cases h) (fun _ h => by cases h) (fun h => by cases h) (fun h => by cases h) hk0 hk1 hkk0 hkk1 rfl h1 h2 h3
    (by rw [nn sp h1, nn x h3, arrV_size]; omega) (by rw [nn dp h2, nn x h3, arrV_size]; omega)
    (fun vm₁ _ i hi => by
      have e : (arrV (G.2.1 1) N0 (fun j => Value.long (μ.2.1 q0 j))).slots.getD (sp.toNatClampNeg + i) .null = .long (μ.2.1 q0 (sp.toNatClampNeg + i)) := by
        rw [Array.getD_eq_getD_getElem?, arrV_read _ _ (by omega)]
        rfl
      refine ⟨?_, ?_⟩
      · rw [e]
        rfl
      · rw [e]
        exact trivial)
    (g := F0 m pc ls (.int x :: .int dp :: .ref (G.1 q) :: .int sp :: .ref (G.1 q0) :: st.map (cv G.1))) rfl (by rw [hml]; exact hl.1) (rest := st.map (cv G.1)) rfl (by rw [hb]; exact d) (Nat.le_trans hf.1 hR1) (by
      have e9 : nativeFrameWords "java/lang/System" "arraycopy" 5 + 11 ≤ 52 := by decide +kernel
      show 2 * 0 + _ + _ ≤ _
      omega)
  have e1 : copied (arrV (G.2.1 1) N0 (fun j => Value.long (μ.2.1 q0 j))) (arrV (G.2.1 1) N1 (fun j => Value.long (μ.2.1 q j))) sp dp x = arrV (G.2.1 1) N1 (fun j => Value.long (va_cpy (μ.2.1 q0) (μ.2.1 q) sp.toNatClampNeg dp.toNatClampNeg x.toNatClampNeg j)) := va_copied (fun z => .long z) (G.2.1 1) (G.2.1 1) (μ.2.1 q0) (μ.2.1 q) h4
  rw [e1] at X' step
  have hl1 : G.1 q < H.size := (Array.getElem?_eq_some_iff.mp hc1).1
  generalize hce : arrV (G.2.1 1) N1 (fun j => Value.long (va_cpy (μ.2.1 q0) (μ.2.1 q) sp.toNatClampNeg dp.toNatClampNeg x.toNatClampNeg j)) = cE at X' step
  have hheap : ((T.setVm vm').setCell (G.1 q) cE).heap = H.setIfInBounds (G.1 q) cE := by rw [← hT]; rfl
  have oq : ∀ a : Nat, a ≠ G.1 q → (H.setIfInBounds (G.1 q) cE)[a]? = H[a]? := fun a ha => by simp [Array.getElem?_setIfInBounds, Ne.symm ha]
  have hD1 := hD.put (H1 := H.setIfInBounds (G.1 q) cE) (μ' := pRow μ q (va_cpy (μ.2.1 q0) (μ.2.1 q) sp.toNatClampNeg dp.toNatClampNeg x.toNatClampNeg)) hK1 (by
      show (H.setIfInBounds (G.1 q) cE)[G.1 q]? = some (arrV (G.2.1 1) N1 (fun j => .long ((pRow μ q (va_cpy (μ.2.1 q0) (μ.2.1 q) sp.toNatClampNeg dp.toNatClampNeg x.toNatClampNeg)).2.1 q j)))
      rw [Array.getElem?_setIfInBounds, if_pos rfl, if_pos hl1, ← hce]
      exact congrArg some (arrV_ext (fun j => by simp [pRow, va_up]))) (fun _ hq => cell_pRow μ _ hq) (by simp) oq 0
  obtain ⟨d1, d2, dS, d3⟩ := hD1
  have hb0 : bA G (G.1 q) := hD.D.2 q _ (wl_get hK1)
  have key := fun hDD => h p l e R s m args below meth c _ _ cells slots Qf G ls hC hDD hn hl hr _ hheap X'
  obtain ⟨t, a1, b1⟩ := key ⟨d1, d2, ⟨dS.1, dS.2.1, fun z hz => by
      rcases List.mem_append.mp hz with h | h
      · exact hD.2.2.1.2.2 z h
      · obtain ⟨w, -, hw⟩ := List.mem_map.mp h
        rw [← hw]
        exact hb0⟩, d3⟩
  exact ⟨t, step t a1, b1⟩
theorem aw_strV (i : Nat) (hi : i < 15) (hw : Cond.fieldLink M.1.cls idx "java/lang/String" "value" "[B" ∈ ws0) (d : decode M.2.1 pc = .ok (.getfield idx, 3)) (h : AW Sc M (pc + 3) lv (.ref (450 + i) :: st) K μ n Q) : AW Sc M pc lv (.ref (400 + i) :: st) K μ n Q :=
  fun p l e R s m args below meth c H locs cells slots Qf G ls hC hD hn hl hr => vk_getf hC.1 hC.2.1 ((hD.2.2.2.2.2.2.2.2.1).1 i hi).2.2.1 hD.2.2.1 hC.2.2.2.1 (hC.2.2.2.2.1 _ hw) (fun _ h => h) d (h p l e R s m args below meth c H locs cells slots Qf G ls hC hD hn hl hr)
theorem aw_strC (i : Nat) (hi : i < 15) (hw : Cond.fieldLink M.1.cls idx "java/lang/String" "coder" "B" ∈ ws0) (d : decode M.2.1 pc = .ok (.getfield idx, 3)) (h : AW Sc M (pc + 3) lv (.int 0 :: st) K μ n Q) : AW Sc M pc lv (.ref (400 + i) :: st) K μ n Q :=
  fun p l e R s m args below meth c H locs cells slots Qf G ls hC hD hn hl hr => vk_getf hC.1 hC.2.1 ((hD.2.2.2.2.2.2.2.2.1).1 i hi).2.1 hD.2.2.1 hC.2.2.2.1 (hC.2.2.2.2.1 _ hw) (fun _ h => h) d (h p l e R s m args below meth c H locs cells slots Qf G ls hC hD hn hl hr)
theorem aw_strL (i : Nat) (hi : i < 15) (d : decode M.2.1 pc = .ok (.arraylength, 1)) (h : AW Sc M (pc + 1) lv (.int (nI (sLen.getD i 0)) :: st) K μ n Q) : AW Sc M pc lv (.ref (450 + i) :: st) K μ n Q :=
  fun p l e R s m args below meth c H locs cells slots Qf G ls hC hD hn hl hr => va_tlen hC.1 hC.2.1 ((hD.2.2.2.2.2.2.2.2.1).1 i hi).2.2.2 hD.2.2.1 rfl d (h p l e R s m args below meth c H locs cells slots Qf G ls hC hD hn hl hr)
theorem aw_strB (i : Nat) (hi : i < 15) {j : Int32} (hj : vp_in j (sLen.getD i 0)) (d : decode M.2.1 pc = .ok (.baload, 1)) (h : AW Sc M (pc + 1) lv (.int ((sByt.getD i []).getD j.toNatClampNeg 0) :: st) K μ n Q) : AW Sc M pc lv (.int j :: .ref (450 + i) :: st) K μ n Q :=
  fun p l e R s m args below meth c H locs cells slots Qf G ls hC hD hn hl hr => va_tb hC.1 hC.2.1 ((hD.2.2.2.2.2.2.2.2.1).1 i hi).2.2.2 hD.2.2.1 hj rfl d (h p l e R s m args below meth c H locs cells slots Qf G ls hC hD hn hl hr)
theorem aw_compact (hw : Cond.fieldLink M.1.cls idx "java/lang/String" "COMPACT_STRINGS" "Z" ∈ ws0) (d : decode M.2.1 pc = .ok (.getstatic idx, 3)) (h : AW Sc M (pc + 3) lv (.int 1 :: st) K μ n Q) : AW Sc M pc lv st K μ n Q :=
  fun p l e R s m args below meth c H locs cells slots Qf G ls hC hD hn hl hr => va_gets hC.1 hC.2.1 hD.2.2.2.2.2.2.2.2.2.1 hD.2.2.1 hC.2.2.2.1 (hC.2.2.2.2.1 _ hw) (fun _ h => h) d (h p l e R s m args below meth c H locs cells slots Qf G ls hC hD hn hl hr)
theorem aw_former (hw : Cond.fieldLink M.1.cls idx "jdk/internal/util/Preconditions" "SIOOBE_FORMATTER" "Ljava/util/function/BiFunction;" ∈ ws0) (d : decode M.2.1 pc = .ok (.getstatic idx, 3)) (h : ∀ v, AW Sc M (pc + 3) lv (v :: st) K μ n Q) : AW Sc M pc lv st K μ n Q := by
  intro p l e R s m args below meth c H locs cells slots Qf G ls hC hD hn hl hr
  rcases hD.2.2.2.2.2.2.2.2.2.2.1 with h4 | h4
  · exact va_gets hC.1 hC.2.1 h4 hD.2.2.1 hC.2.2.2.1 (hC.2.2.2.2.1 _ hw) (fun _ h => h) d (h .null p l e R s m args below meth c H locs cells slots Qf G ls hC hD hn hl hr)
  · exact va_gets hC.1 hC.2.1 h4 hD.2.2.1 hC.2.2.2.1 (hC.2.2.2.2.1 _ hw) (fun _ h => h) d (h (.ref 499) p l e R s m args below meth c H locs cells slots Qf G ls hC hD hn hl hr)
theorem aw_sld {i : Int32} (hi : vp_in i Sc.1) (d : decode M.2.1 pc = .ok (.iaload, 1)) (h : AW Sc M (pc + 1) lv (.int (Sc.2 i.toNatClampNeg) :: st) K μ n Q) : AW Sc M pc lv (.int i :: .ref 999 :: st) K μ n Q := by
  intro p l e R s m args below meth c H locs cells slots Qf G ls hC hD hn hl hr
  have hX := hD.2.2.2.2.2.2.2.2.2.2.2.1
  exact va_sld hC.1 hC.2.1 hX.1 hX.2.2 (Nat.not_le.mpr hX.2.1) hD.2.2.1 hi d (h p l e R s m args below meth c H locs cells slots Qf G ls hC hD hn hl hr)
theorem aw_slen (d : decode M.2.1 pc = .ok (.arraylength, 1)) (h : AW Sc M (pc + 1) lv (.int (nI Sc.1) :: st) K μ n Q) : AW Sc M pc lv (.ref 999 :: st) K μ n Q := by
  intro p l e R s m args below meth c H locs cells slots Qf G ls hC hD hn hl hr
  have hX := hD.2.2.2.2.2.2.2.2.2.2.2.1
  exact va_slen hC.1 hC.2.1 hX.1 hX.2.2 (Nat.not_le.mpr hX.2.1) hD.2.2.1 d (h p l e R s m args below meth c H locs cells slots Qf G ls hC hD hn hl hr)
end ANat
end
section
/-! LINKS: the tables' words by their places, and what each pool entry leads to (printed by wip/whole/gen_links.py) -/
theorem w_79 : (.methodLink "EndlessTug" 1 Lib.objectInit : Cond) ∈ ws0 := ws0_mem (List.mem_append_right _ (List.mem_append_left _ (List.mem_of_getElem? (i := 27) rfl))) rfl
theorem w_80 : (.instanceMethod Lib.objectInit : Cond) ∈ ws0 := ws0_mem (List.mem_append_right _ (List.mem_append_left _ (List.mem_of_getElem? (i := 28) rfl))) rfl
theorem w_81 : (.code Lib.objectInit ⟨#[0xb1]⟩ 1 none : Cond) ∈ ws0 := ws0_mem (List.mem_append_right _ (List.mem_append_left _ (List.mem_of_getElem? (i := 29) rfl))) rfl
theorem kX11_1 : ∀ w ∈ ([.methodLink "EndlessTug" 1 Lib.objectInit, .instanceMethod Lib.objectInit, .code Lib.objectInit ⟨#[0xb1]⟩ 1 none] : List Cond), w ∈ ws0 := List.forall_mem_cons.mpr ⟨w_79, List.forall_mem_cons.mpr ⟨w_80, List.forall_mem_cons.mpr ⟨w_81, fun _ h => absurd h List.not_mem_nil⟩⟩⟩
theorem w_84 : (.methodLink "EndlessTug" 9 yX2_init : Cond) ∈ ws0 := ws0_mem (List.mem_append_right _ (List.mem_append_left _ (List.mem_of_getElem? (i := 32) rfl))) rfl
theorem w_85 : (.instanceMethod yX2_init : Cond) ∈ ws0 := ws0_mem (List.mem_append_right _ (List.mem_append_left _ (List.mem_of_getElem? (i := 33) rfl))) rfl
theorem w_54 : (.initialized "EndlessTug$Green" : Cond) ∈ ws0 := ws0_mem (List.mem_append_right _ (List.mem_append_left _ (List.mem_of_getElem? (i := 2) rfl))) rfl
theorem w_86 : (cdW mX2_init : Cond) ∈ ws0 := ws0_mem (List.mem_append_right _ (List.mem_append_left _ (List.mem_of_getElem? (i := 34) rfl))) rfl
theorem kX11_9 : LkI "EndlessTug" 9 mX2_init 0 := ⟨List.forall_mem_cons.mpr ⟨w_84, List.forall_mem_cons.mpr ⟨w_85, List.forall_mem_cons.mpr ⟨w_54, fun _ h => absurd h List.not_mem_nil⟩⟩⟩, w_86, rfl, rfl, ⟨by decide +kernel, by decide +kernel, by decide +kernel⟩⟩
theorem w_219 : (.instanceMethod yX0_init : Cond) ∈ ws0 := ws0_mem (List.mem_append_right _ (List.mem_append_left _ (List.mem_of_getElem? (i := 167) rfl))) rfl
theorem w_62 : (.initialized "EndlessTug$Best" : Cond) ∈ ws0 := ws0_mem (List.mem_append_right _ (List.mem_append_left _ (List.mem_of_getElem? (i := 10) rfl))) rfl
theorem w_220 : (cdW mX0_init : Cond) ∈ ws0 := ws0_mem (List.mem_append_right _ (List.mem_append_left _ (List.mem_of_getElem? (i := 168) rfl))) rfl
theorem kX11_24 : LkIN "EndlessTug" 24 mX0_init 0 := ⟨List.forall_mem_cons.mpr ⟨w_219, List.forall_mem_cons.mpr ⟨w_62, fun _ h => absurd h List.not_mem_nil⟩⟩, w_220, rfl, rfl, ⟨by decide +kernel, by decide +kernel, by decide +kernel⟩, by decide +kernel⟩
theorem w_237 : (.instanceMethod yX9_init : Cond) ∈ ws0 := ws0_mem (List.mem_append_right _ (List.mem_append_left _ (List.mem_of_getElem? (i := 185) rfl))) rfl
theorem w_63 : (.initialized "EndlessTug$Tape" : Cond) ∈ ws0 := ws0_mem (List.mem_append_right _ (List.mem_append_left _ (List.mem_of_getElem? (i := 11) rfl))) rfl
theorem w_238 : (cdW mX9_init : Cond) ∈ ws0 := ws0_mem (List.mem_append_right _ (List.mem_append_left _ (List.mem_of_getElem? (i := 186) rfl))) rfl
theorem kX11_31 : LkIN "EndlessTug" 31 mX9_init 0 := ⟨List.forall_mem_cons.mpr ⟨w_237, List.forall_mem_cons.mpr ⟨w_63, fun _ h => absurd h List.not_mem_nil⟩⟩, w_238, rfl, rfl, ⟨by decide +kernel, by decide +kernel, by decide +kernel⟩, by decide +kernel⟩
theorem w_265 : (.instanceMethod yX6_init : Cond) ∈ ws0 := ws0_mem (List.mem_append_right _ (List.mem_append_left _ (List.mem_of_getElem? (i := 213) rfl))) rfl
theorem w_64 : (.initialized "EndlessTug$Sheet" : Cond) ∈ ws0 := ws0_mem (List.mem_append_right _ (List.mem_append_left _ (List.mem_of_getElem? (i := 12) rfl))) rfl
theorem w_266 : (cdW mX6_init : Cond) ∈ ws0 := ws0_mem (List.mem_append_right _ (List.mem_append_left _ (List.mem_of_getElem? (i := 214) rfl))) rfl
theorem kX11_46 : LkIN "EndlessTug" 46 mX6_init 0 := ⟨List.forall_mem_cons.mpr ⟨w_265, List.forall_mem_cons.mpr ⟨w_64, fun _ h => absurd h List.not_mem_nil⟩⟩, w_266, rfl, rfl, ⟨by decide +kernel, by decide +kernel, by decide +kernel⟩, by decide +kernel⟩
theorem w_313 : (.methodLink "EndlessTug" 47 yX11_isWithin : Cond) ∈ ws0 := ws0_mem (List.mem_append_right _ (List.mem_append_right _ (List.mem_append_left _ (List.mem_of_getElem? (i := 21) rfl)))) rfl
theorem w_314 : (.static yX11_isWithin : Cond) ∈ ws0 := ws0_mem (List.mem_append_right _ (List.mem_append_right _ (List.mem_append_left _ (List.mem_of_getElem? (i := 22) rfl)))) rfl
theorem w_53 : (.initialized "EndlessTug" : Cond) ∈ ws0 := ws0_mem (List.mem_append_right _ (List.mem_append_left _ (List.mem_of_getElem? (i := 1) rfl))) rfl
theorem w_315 : (cdW mX11_isWithin : Cond) ∈ ws0 := ws0_mem (List.mem_append_right _ (List.mem_append_right _ (List.mem_append_left _ (List.mem_of_getElem? (i := 23) rfl)))) rfl
theorem kX11_47 : LkS "EndlessTug" 47 mX11_isWithin 3 := ⟨List.forall_mem_cons.mpr ⟨w_313, List.forall_mem_cons.mpr ⟨w_314, List.forall_mem_cons.mpr ⟨w_53, fun _ h => absurd h List.not_mem_nil⟩⟩⟩, w_315, ⟨by decide +kernel, by decide +kernel, by decide +kernel⟩⟩
theorem w_317 : (.methodLink "EndlessTug" 52 yX11_finding : Cond) ∈ ws0 := ws0_mem (List.mem_append_right _ (List.mem_append_right _ (List.mem_append_left _ (List.mem_of_getElem? (i := 25) rfl)))) rfl
theorem w_319 : (.instanceMethod yX11_finding : Cond) ∈ ws0 := ws0_mem (List.mem_append_right _ (List.mem_append_right _ (List.mem_append_left _ (List.mem_of_getElem? (i := 27) rfl)))) rfl
theorem w_0 : (.selects "EndlessTug" yX11_finding yX11_finding : Cond) ∈ ws0 := ws0_mem (List.mem_append_left _ (List.mem_of_getElem? (i := 0) (by decide +kernel))) rfl
theorem w_320 : (cdW mX11_finding : Cond) ∈ ws0 := ws0_mem (List.mem_append_right _ (List.mem_append_right _ (List.mem_append_left _ (List.mem_of_getElem? (i := 28) rfl)))) rfl
theorem kX11_52 : LkV "EndlessTug" 52 mX11_finding 1 := ⟨List.forall_mem_cons.mpr ⟨w_317, List.forall_mem_cons.mpr ⟨w_319, List.forall_mem_cons.mpr ⟨w_0, List.forall_mem_cons.mpr ⟨w_53, fun _ h => absurd h List.not_mem_nil⟩⟩⟩⟩, w_320, ⟨by decide +kernel, by decide +kernel, by decide +kernel⟩⟩
theorem w_333 : (.methodLink "EndlessTug" 69 yX2_weekOfYear : Cond) ∈ ws0 := ws0_mem (List.mem_append_right _ (List.mem_append_right _ (List.mem_append_left _ (List.mem_of_getElem? (i := 41) rfl)))) rfl
theorem w_334 : (.instanceMethod yX2_weekOfYear : Cond) ∈ ws0 := ws0_mem (List.mem_append_right _ (List.mem_append_right _ (List.mem_append_left _ (List.mem_of_getElem? (i := 42) rfl)))) rfl
theorem w_335 : (.selects "EndlessTug$Green" yX2_weekOfYear yX2_weekOfYear : Cond) ∈ ws0 := ws0_mem (List.mem_append_right _ (List.mem_append_right _ (List.mem_append_left _ (List.mem_of_getElem? (i := 43) rfl)))) rfl
theorem w_336 : (cdW mX2_weekOfYear : Cond) ∈ ws0 := ws0_mem (List.mem_append_right _ (List.mem_append_right _ (List.mem_append_left _ (List.mem_of_getElem? (i := 44) rfl)))) rfl
theorem kX11_69 : LkV "EndlessTug" 69 mX2_weekOfYear 0 := ⟨List.forall_mem_cons.mpr ⟨w_333, List.forall_mem_cons.mpr ⟨w_334, List.forall_mem_cons.mpr ⟨w_335, List.forall_mem_cons.mpr ⟨w_54, fun _ h => absurd h List.not_mem_nil⟩⟩⟩⟩, w_336, ⟨by decide +kernel, by decide +kernel, by decide +kernel⟩⟩
theorem w_337 : (.methodLink "EndlessTug" 73 yX2_isHarvest : Cond) ∈ ws0 := ws0_mem (List.mem_append_right _ (List.mem_append_right _ (List.mem_append_left _ (List.mem_of_getElem? (i := 45) rfl)))) rfl
theorem w_338 : (.instanceMethod yX2_isHarvest : Cond) ∈ ws0 := ws0_mem (List.mem_append_right _ (List.mem_append_right _ (List.mem_append_left _ (List.mem_of_getElem? (i := 46) rfl)))) rfl
theorem w_339 : (.selects "EndlessTug$Green" yX2_isHarvest yX2_isHarvest : Cond) ∈ ws0 := ws0_mem (List.mem_append_right _ (List.mem_append_right _ (List.mem_append_left _ (List.mem_of_getElem? (i := 47) rfl)))) rfl
theorem w_340 : (cdW mX2_isHarvest : Cond) ∈ ws0 := ws0_mem (List.mem_append_right _ (List.mem_append_right _ (List.mem_append_left _ (List.mem_of_getElem? (i := 48) rfl)))) rfl
theorem kX11_73 : LkV "EndlessTug" 73 mX2_isHarvest 0 := ⟨List.forall_mem_cons.mpr ⟨w_337, List.forall_mem_cons.mpr ⟨w_338, List.forall_mem_cons.mpr ⟨w_339, List.forall_mem_cons.mpr ⟨w_54, fun _ h => absurd h List.not_mem_nil⟩⟩⟩⟩, w_340, ⟨by decide +kernel, by decide +kernel, by decide +kernel⟩⟩
theorem w_342 : (.methodLink "EndlessTug" 77 yX2_isSunday : Cond) ∈ ws0 := ws0_mem (List.mem_append_right _ (List.mem_append_right _ (List.mem_append_left _ (List.mem_of_getElem? (i := 50) rfl)))) rfl
theorem w_343 : (.instanceMethod yX2_isSunday : Cond) ∈ ws0 := ws0_mem (List.mem_append_right _ (List.mem_append_right _ (List.mem_append_left _ (List.mem_of_getElem? (i := 51) rfl)))) rfl
theorem w_344 : (.selects "EndlessTug$Green" yX2_isSunday yX2_isSunday : Cond) ∈ ws0 := ws0_mem (List.mem_append_right _ (List.mem_append_right _ (List.mem_append_left _ (List.mem_of_getElem? (i := 52) rfl)))) rfl
theorem w_345 : (cdW mX2_isSunday : Cond) ∈ ws0 := ws0_mem (List.mem_append_right _ (List.mem_append_right _ (List.mem_append_left _ (List.mem_of_getElem? (i := 53) rfl)))) rfl
theorem kX11_77 : LkV "EndlessTug" 77 mX2_isSunday 0 := ⟨List.forall_mem_cons.mpr ⟨w_342, List.forall_mem_cons.mpr ⟨w_343, List.forall_mem_cons.mpr ⟨w_344, List.forall_mem_cons.mpr ⟨w_54, fun _ h => absurd h List.not_mem_nil⟩⟩⟩⟩, w_345, ⟨by decide +kernel, by decide +kernel, by decide +kernel⟩⟩
theorem w_346 : (.methodLink "EndlessTug" 80 yX2_sideAhead : Cond) ∈ ws0 := ws0_mem (List.mem_append_right _ (List.mem_append_right _ (List.mem_append_left _ (List.mem_of_getElem? (i := 54) rfl)))) rfl
theorem w_347 : (.instanceMethod yX2_sideAhead : Cond) ∈ ws0 := ws0_mem (List.mem_append_right _ (List.mem_append_right _ (List.mem_append_left _ (List.mem_of_getElem? (i := 55) rfl)))) rfl
theorem w_348 : (.selects "EndlessTug$Green" yX2_sideAhead yX2_sideAhead : Cond) ∈ ws0 := ws0_mem (List.mem_append_right _ (List.mem_append_right _ (List.mem_append_left _ (List.mem_of_getElem? (i := 56) rfl)))) rfl
theorem w_349 : (cdW mX2_sideAhead : Cond) ∈ ws0 := ws0_mem (List.mem_append_right _ (List.mem_append_right _ (List.mem_append_left _ (List.mem_of_getElem? (i := 57) rfl)))) rfl
theorem kX11_80 : LkV "EndlessTug" 80 mX2_sideAhead 0 := ⟨List.forall_mem_cons.mpr ⟨w_346, List.forall_mem_cons.mpr ⟨w_347, List.forall_mem_cons.mpr ⟨w_348, List.forall_mem_cons.mpr ⟨w_54, fun _ h => absurd h List.not_mem_nil⟩⟩⟩⟩, w_349, ⟨by decide +kernel, by decide +kernel, by decide +kernel⟩⟩
theorem w_350 : (.methodLink "EndlessTug" 83 yX2_setOn : Cond) ∈ ws0 := ws0_mem (List.mem_append_right _ (List.mem_append_right _ (List.mem_append_left _ (List.mem_of_getElem? (i := 58) rfl)))) rfl
theorem w_351 : (.instanceMethod yX2_setOn : Cond) ∈ ws0 := ws0_mem (List.mem_append_right _ (List.mem_append_right _ (List.mem_append_left _ (List.mem_of_getElem? (i := 59) rfl)))) rfl
theorem w_352 : (.selects "EndlessTug$Green" yX2_setOn yX2_setOn : Cond) ∈ ws0 := ws0_mem (List.mem_append_right _ (List.mem_append_right _ (List.mem_append_left _ (List.mem_of_getElem? (i := 60) rfl)))) rfl
theorem w_353 : (cdW mX2_setOn : Cond) ∈ ws0 := ws0_mem (List.mem_append_right _ (List.mem_append_right _ (List.mem_append_left _ (List.mem_of_getElem? (i := 61) rfl)))) rfl
theorem kX11_83 : LkV "EndlessTug" 83 mX2_setOn 0 := ⟨List.forall_mem_cons.mpr ⟨w_350, List.forall_mem_cons.mpr ⟨w_351, List.forall_mem_cons.mpr ⟨w_352, List.forall_mem_cons.mpr ⟨w_54, fun _ h => absurd h List.not_mem_nil⟩⟩⟩⟩, w_353, ⟨by decide +kernel, by decide +kernel, by decide +kernel⟩⟩
theorem w_354 : (.methodLink "EndlessTug" 86 yX2_pullOf : Cond) ∈ ws0 := ws0_mem (List.mem_append_right _ (List.mem_append_right _ (List.mem_append_left _ (List.mem_of_getElem? (i := 62) rfl)))) rfl
theorem w_355 : (.instanceMethod yX2_pullOf : Cond) ∈ ws0 := ws0_mem (List.mem_append_right _ (List.mem_append_right _ (List.mem_append_left _ (List.mem_of_getElem? (i := 63) rfl)))) rfl
theorem w_356 : (.selects "EndlessTug$Green" yX2_pullOf yX2_pullOf : Cond) ∈ ws0 := ws0_mem (List.mem_append_right _ (List.mem_append_right _ (List.mem_append_left _ (List.mem_of_getElem? (i := 64) rfl)))) rfl
theorem w_357 : (cdW mX2_pullOf : Cond) ∈ ws0 := ws0_mem (List.mem_append_right _ (List.mem_append_right _ (List.mem_append_left _ (List.mem_of_getElem? (i := 65) rfl)))) rfl
theorem kX11_86 : LkV "EndlessTug" 86 mX2_pullOf 1 := ⟨List.forall_mem_cons.mpr ⟨w_354, List.forall_mem_cons.mpr ⟨w_355, List.forall_mem_cons.mpr ⟨w_356, List.forall_mem_cons.mpr ⟨w_54, fun _ h => absurd h List.not_mem_nil⟩⟩⟩⟩, w_357, ⟨by decide +kernel, by decide +kernel, by decide +kernel⟩⟩
theorem w_394 : (.methodLink "EndlessTug" 89 yX11_isKind : Cond) ∈ ws0 := ws0_mem (List.mem_append_right _ (List.mem_append_right _ (List.mem_append_left _ (List.mem_of_getElem? (i := 102) rfl)))) rfl
theorem w_395 : (.static yX11_isKind : Cond) ∈ ws0 := ws0_mem (List.mem_append_right _ (List.mem_append_right _ (List.mem_append_left _ (List.mem_of_getElem? (i := 103) rfl)))) rfl
theorem w_396 : (cdW mX11_isKind : Cond) ∈ ws0 := ws0_mem (List.mem_append_right _ (List.mem_append_right _ (List.mem_append_left _ (List.mem_of_getElem? (i := 104) rfl)))) rfl
theorem kX11_89 : LkS "EndlessTug" 89 mX11_isKind 1 := ⟨List.forall_mem_cons.mpr ⟨w_394, List.forall_mem_cons.mpr ⟨w_395, List.forall_mem_cons.mpr ⟨w_53, fun _ h => absurd h List.not_mem_nil⟩⟩⟩, w_396, ⟨by decide +kernel, by decide +kernel, by decide +kernel⟩⟩
theorem w_397 : (.methodLink "EndlessTug" 93 yX11_isSide : Cond) ∈ ws0 := ws0_mem (List.mem_append_right _ (List.mem_append_right _ (List.mem_append_left _ (List.mem_of_getElem? (i := 105) rfl)))) rfl
theorem w_398 : (.static yX11_isSide : Cond) ∈ ws0 := ws0_mem (List.mem_append_right _ (List.mem_append_right _ (List.mem_append_left _ (List.mem_of_getElem? (i := 106) rfl)))) rfl
theorem w_399 : (cdW mX11_isSide : Cond) ∈ ws0 := ws0_mem (List.mem_append_right _ (List.mem_append_right _ (List.mem_append_left _ (List.mem_of_getElem? (i := 107) rfl)))) rfl
theorem kX11_93 : LkS "EndlessTug" 93 mX11_isSide 1 := ⟨List.forall_mem_cons.mpr ⟨w_397, List.forall_mem_cons.mpr ⟨w_398, List.forall_mem_cons.mpr ⟨w_53, fun _ h => absurd h List.not_mem_nil⟩⟩⟩, w_399, ⟨by decide +kernel, by decide +kernel, by decide +kernel⟩⟩
theorem w_400 : (.methodLink "EndlessTug" 96 yX2_isFull : Cond) ∈ ws0 := ws0_mem (List.mem_append_right _ (List.mem_append_right _ (List.mem_append_left _ (List.mem_of_getElem? (i := 108) rfl)))) rfl
theorem w_401 : (.instanceMethod yX2_isFull : Cond) ∈ ws0 := ws0_mem (List.mem_append_right _ (List.mem_append_right _ (List.mem_append_left _ (List.mem_of_getElem? (i := 109) rfl)))) rfl
theorem w_402 : (.selects "EndlessTug$Green" yX2_isFull yX2_isFull : Cond) ∈ ws0 := ws0_mem (List.mem_append_right _ (List.mem_append_right _ (List.mem_append_left _ (List.mem_of_getElem? (i := 110) rfl)))) rfl
theorem w_403 : (cdW mX2_isFull : Cond) ∈ ws0 := ws0_mem (List.mem_append_right _ (List.mem_append_right _ (List.mem_append_left _ (List.mem_of_getElem? (i := 111) rfl)))) rfl
theorem kX11_96 : LkV "EndlessTug" 96 mX2_isFull 0 := ⟨List.forall_mem_cons.mpr ⟨w_400, List.forall_mem_cons.mpr ⟨w_401, List.forall_mem_cons.mpr ⟨w_402, List.forall_mem_cons.mpr ⟨w_54, fun _ h => absurd h List.not_mem_nil⟩⟩⟩⟩, w_403, ⟨by decide +kernel, by decide +kernel, by decide +kernel⟩⟩
theorem w_405 : (.methodLink "EndlessTug" 103 yX2_addOne : Cond) ∈ ws0 := ws0_mem (List.mem_append_right _ (List.mem_append_right _ (List.mem_append_left _ (List.mem_of_getElem? (i := 113) rfl)))) rfl
theorem w_406 : (.instanceMethod yX2_addOne : Cond) ∈ ws0 := ws0_mem (List.mem_append_right _ (List.mem_append_right _ (List.mem_append_left _ (List.mem_of_getElem? (i := 114) rfl)))) rfl
theorem w_407 : (.selects "EndlessTug$Green" yX2_addOne yX2_addOne : Cond) ∈ ws0 := ws0_mem (List.mem_append_right _ (List.mem_append_right _ (List.mem_append_left _ (List.mem_of_getElem? (i := 115) rfl)))) rfl
theorem w_408 : (cdW mX2_addOne : Cond) ∈ ws0 := ws0_mem (List.mem_append_right _ (List.mem_append_right _ (List.mem_append_left _ (List.mem_of_getElem? (i := 116) rfl)))) rfl
theorem kX11_103 : LkV "EndlessTug" 103 mX2_addOne 2 := ⟨List.forall_mem_cons.mpr ⟨w_405, List.forall_mem_cons.mpr ⟨w_406, List.forall_mem_cons.mpr ⟨w_407, List.forall_mem_cons.mpr ⟨w_54, fun _ h => absurd h List.not_mem_nil⟩⟩⟩⟩, w_408, ⟨by decide +kernel, by decide +kernel, by decide +kernel⟩⟩
theorem w_415 : (.methodLink "EndlessTug" 107 yX2_has : Cond) ∈ ws0 := ws0_mem (List.mem_append_right _ (List.mem_append_right _ (List.mem_append_left _ (List.mem_of_getElem? (i := 123) rfl)))) rfl
theorem w_416 : (.instanceMethod yX2_has : Cond) ∈ ws0 := ws0_mem (List.mem_append_right _ (List.mem_append_right _ (List.mem_append_left _ (List.mem_of_getElem? (i := 124) rfl)))) rfl
theorem w_417 : (.selects "EndlessTug$Green" yX2_has yX2_has : Cond) ∈ ws0 := ws0_mem (List.mem_append_right _ (List.mem_append_right _ (List.mem_append_left _ (List.mem_of_getElem? (i := 125) rfl)))) rfl
theorem w_418 : (cdW mX2_has : Cond) ∈ ws0 := ws0_mem (List.mem_append_right _ (List.mem_append_right _ (List.mem_append_left _ (List.mem_of_getElem? (i := 126) rfl)))) rfl
theorem kX11_107 : LkV "EndlessTug" 107 mX2_has 1 := ⟨List.forall_mem_cons.mpr ⟨w_415, List.forall_mem_cons.mpr ⟨w_416, List.forall_mem_cons.mpr ⟨w_417, List.forall_mem_cons.mpr ⟨w_54, fun _ h => absurd h List.not_mem_nil⟩⟩⟩⟩, w_418, ⟨by decide +kernel, by decide +kernel, by decide +kernel⟩⟩
theorem w_419 : (.methodLink "EndlessTug" 137 yX3_pull : Cond) ∈ ws0 := ws0_mem (List.mem_append_right _ (List.mem_append_right _ (List.mem_append_left _ (List.mem_of_getElem? (i := 127) rfl)))) rfl
theorem w_359 : (.instanceMethod yX3_pull : Cond) ∈ ws0 := ws0_mem (List.mem_append_right _ (List.mem_append_right _ (List.mem_append_left _ (List.mem_of_getElem? (i := 67) rfl)))) rfl
theorem w_360 : (.selects "EndlessTug$Man" yX3_pull yX3_pull : Cond) ∈ ws0 := ws0_mem (List.mem_append_right _ (List.mem_append_right _ (List.mem_append_left _ (List.mem_of_getElem? (i := 68) rfl)))) rfl
theorem w_55 : (.initialized "EndlessTug$Man" : Cond) ∈ ws0 := ws0_mem (List.mem_append_right _ (List.mem_append_left _ (List.mem_of_getElem? (i := 3) rfl))) rfl
theorem w_389 : (cdW mX3_pull : Cond) ∈ ws0 := ws0_mem (List.mem_append_right _ (List.mem_append_right _ (List.mem_append_left _ (List.mem_of_getElem? (i := 97) rfl)))) rfl
theorem kX11_137 : LkV "EndlessTug" 137 mX3_pull 2 := ⟨List.forall_mem_cons.mpr ⟨w_419, List.forall_mem_cons.mpr ⟨w_359, List.forall_mem_cons.mpr ⟨w_360, List.forall_mem_cons.mpr ⟨w_55, fun _ h => absurd h List.not_mem_nil⟩⟩⟩⟩, w_389, ⟨by decide +kernel, by decide +kernel, by decide +kernel⟩⟩
theorem w_361 : (.sameMethod "EndlessTug$Man" "EndlessTug$Man" "pull" "(LEndlessTug$Person;LEndlessTug$Green;)I" : Cond) ∈ ws0 := ws0_mem (List.mem_append_right _ (List.mem_append_right _ (List.mem_append_left _ (List.mem_of_getElem? (i := 69) rfl)))) rfl
theorem w_362 : (.selects "EndlessTug$Drinker" yX3_pull yX1_pull : Cond) ∈ ws0 := ws0_mem (List.mem_append_right _ (List.mem_append_right _ (List.mem_append_left _ (List.mem_of_getElem? (i := 70) rfl)))) rfl
theorem w_363 : (.instanceMethod yX1_pull : Cond) ∈ ws0 := ws0_mem (List.mem_append_right _ (List.mem_append_right _ (List.mem_append_left _ (List.mem_of_getElem? (i := 71) rfl)))) rfl
theorem w_57 : (.initialized "EndlessTug$Drinker" : Cond) ∈ ws0 := ws0_mem (List.mem_append_right _ (List.mem_append_left _ (List.mem_of_getElem? (i := 5) rfl))) rfl
theorem w_364 : (cdW mX1_pull : Cond) ∈ ws0 := ws0_mem (List.mem_append_right _ (List.mem_append_right _ (List.mem_append_left _ (List.mem_of_getElem? (i := 72) rfl)))) rfl
theorem kX11_137_X1 : LkO "EndlessTug" 137 "EndlessTug$Drinker" mX3_pull mX1_pull 2 := ⟨List.forall_mem_cons.mpr ⟨w_419, List.forall_mem_cons.mpr ⟨w_361, List.forall_mem_cons.mpr ⟨w_359, List.forall_mem_cons.mpr ⟨w_362, List.forall_mem_cons.mpr ⟨w_363, List.forall_mem_cons.mpr ⟨w_57, fun _ h => absurd h List.not_mem_nil⟩⟩⟩⟩⟩⟩, w_364, w_389, ⟨by decide +kernel, by decide +kernel, by decide +kernel⟩⟩
theorem w_367 : (.selects "EndlessTug$Preacher" yX3_pull yX5_pull : Cond) ∈ ws0 := ws0_mem (List.mem_append_right _ (List.mem_append_right _ (List.mem_append_left _ (List.mem_of_getElem? (i := 75) rfl)))) rfl
theorem w_368 : (.instanceMethod yX5_pull : Cond) ∈ ws0 := ws0_mem (List.mem_append_right _ (List.mem_append_right _ (List.mem_append_left _ (List.mem_of_getElem? (i := 76) rfl)))) rfl
theorem w_59 : (.initialized "EndlessTug$Preacher" : Cond) ∈ ws0 := ws0_mem (List.mem_append_right _ (List.mem_append_left _ (List.mem_of_getElem? (i := 7) rfl))) rfl
theorem w_369 : (cdW mX5_pull : Cond) ∈ ws0 := ws0_mem (List.mem_append_right _ (List.mem_append_right _ (List.mem_append_left _ (List.mem_of_getElem? (i := 77) rfl)))) rfl
theorem kX11_137_X5 : LkO "EndlessTug" 137 "EndlessTug$Preacher" mX3_pull mX5_pull 2 := ⟨List.forall_mem_cons.mpr ⟨w_419, List.forall_mem_cons.mpr ⟨w_361, List.forall_mem_cons.mpr ⟨w_359, List.forall_mem_cons.mpr ⟨w_367, List.forall_mem_cons.mpr ⟨w_368, List.forall_mem_cons.mpr ⟨w_59, fun _ h => absurd h List.not_mem_nil⟩⟩⟩⟩⟩⟩, w_369, w_389, ⟨by decide +kernel, by decide +kernel, by decide +kernel⟩⟩
theorem w_375 : (.selects "EndlessTug$Son" yX3_pull yX7_pull : Cond) ∈ ws0 := ws0_mem (List.mem_append_right _ (List.mem_append_right _ (List.mem_append_left _ (List.mem_of_getElem? (i := 83) rfl)))) rfl
theorem w_372 : (.instanceMethod yX7_pull : Cond) ∈ ws0 := ws0_mem (List.mem_append_right _ (List.mem_append_right _ (List.mem_append_left _ (List.mem_of_getElem? (i := 80) rfl)))) rfl
theorem w_56 : (.initialized "EndlessTug$Son" : Cond) ∈ ws0 := ws0_mem (List.mem_append_right _ (List.mem_append_left _ (List.mem_of_getElem? (i := 4) rfl))) rfl
theorem w_373 : (cdW mX7_pull : Cond) ∈ ws0 := ws0_mem (List.mem_append_right _ (List.mem_append_right _ (List.mem_append_left _ (List.mem_of_getElem? (i := 81) rfl)))) rfl
theorem kX11_137_X7 : LkO "EndlessTug" 137 "EndlessTug$Son" mX3_pull mX7_pull 2 := ⟨List.forall_mem_cons.mpr ⟨w_419, List.forall_mem_cons.mpr ⟨w_361, List.forall_mem_cons.mpr ⟨w_359, List.forall_mem_cons.mpr ⟨w_375, List.forall_mem_cons.mpr ⟨w_372, List.forall_mem_cons.mpr ⟨w_56, fun _ h => absurd h List.not_mem_nil⟩⟩⟩⟩⟩⟩, w_373, w_389, ⟨by decide +kernel, by decide +kernel, by decide +kernel⟩⟩
theorem w_376 : (.selects "EndlessTug$Stranger" yX3_pull yX8_pull : Cond) ∈ ws0 := ws0_mem (List.mem_append_right _ (List.mem_append_right _ (List.mem_append_left _ (List.mem_of_getElem? (i := 84) rfl)))) rfl
theorem w_377 : (.instanceMethod yX8_pull : Cond) ∈ ws0 := ws0_mem (List.mem_append_right _ (List.mem_append_right _ (List.mem_append_left _ (List.mem_of_getElem? (i := 85) rfl)))) rfl
theorem w_60 : (.initialized "EndlessTug$Stranger" : Cond) ∈ ws0 := ws0_mem (List.mem_append_right _ (List.mem_append_left _ (List.mem_of_getElem? (i := 8) rfl))) rfl
theorem w_378 : (cdW mX8_pull : Cond) ∈ ws0 := ws0_mem (List.mem_append_right _ (List.mem_append_right _ (List.mem_append_left _ (List.mem_of_getElem? (i := 86) rfl)))) rfl
theorem kX11_137_X8 : LkO "EndlessTug" 137 "EndlessTug$Stranger" mX3_pull mX8_pull 2 := ⟨List.forall_mem_cons.mpr ⟨w_419, List.forall_mem_cons.mpr ⟨w_361, List.forall_mem_cons.mpr ⟨w_359, List.forall_mem_cons.mpr ⟨w_376, List.forall_mem_cons.mpr ⟨w_377, List.forall_mem_cons.mpr ⟨w_60, fun _ h => absurd h List.not_mem_nil⟩⟩⟩⟩⟩⟩, w_378, w_389, ⟨by decide +kernel, by decide +kernel, by decide +kernel⟩⟩
theorem w_384 : (.selects "EndlessTug$Woman" yX3_pull yX10_pull : Cond) ∈ ws0 := ws0_mem (List.mem_append_right _ (List.mem_append_right _ (List.mem_append_left _ (List.mem_of_getElem? (i := 92) rfl)))) rfl
theorem w_385 : (.instanceMethod yX10_pull : Cond) ∈ ws0 := ws0_mem (List.mem_append_right _ (List.mem_append_right _ (List.mem_append_left _ (List.mem_of_getElem? (i := 93) rfl)))) rfl
theorem w_58 : (.initialized "EndlessTug$Woman" : Cond) ∈ ws0 := ws0_mem (List.mem_append_right _ (List.mem_append_left _ (List.mem_of_getElem? (i := 6) rfl))) rfl
theorem w_386 : (cdW mX10_pull : Cond) ∈ ws0 := ws0_mem (List.mem_append_right _ (List.mem_append_right _ (List.mem_append_left _ (List.mem_of_getElem? (i := 94) rfl)))) rfl
theorem kX11_137_X10 : LkO "EndlessTug" 137 "EndlessTug$Woman" mX3_pull mX10_pull 2 := ⟨List.forall_mem_cons.mpr ⟨w_419, List.forall_mem_cons.mpr ⟨w_361, List.forall_mem_cons.mpr ⟨w_359, List.forall_mem_cons.mpr ⟨w_384, List.forall_mem_cons.mpr ⟨w_385, List.forall_mem_cons.mpr ⟨w_58, fun _ h => absurd h List.not_mem_nil⟩⟩⟩⟩⟩⟩, w_386, w_389, ⟨by decide +kernel, by decide +kernel, by decide +kernel⟩⟩
theorem w_420 : (.methodLink "EndlessTug" 141 yX3_tire : Cond) ∈ ws0 := ws0_mem (List.mem_append_right _ (List.mem_append_right _ (List.mem_append_left _ (List.mem_of_getElem? (i := 128) rfl)))) rfl
theorem w_421 : (.instanceMethod yX3_tire : Cond) ∈ ws0 := ws0_mem (List.mem_append_right _ (List.mem_append_right _ (List.mem_append_left _ (List.mem_of_getElem? (i := 129) rfl)))) rfl
theorem w_422 : (.selects "EndlessTug$Man" yX3_tire yX3_tire : Cond) ∈ ws0 := ws0_mem (List.mem_append_right _ (List.mem_append_right _ (List.mem_append_left _ (List.mem_of_getElem? (i := 130) rfl)))) rfl
theorem w_443 : (cdW mX3_tire : Cond) ∈ ws0 := ws0_mem (List.mem_append_right _ (List.mem_append_right _ (List.mem_append_left _ (List.mem_of_getElem? (i := 151) rfl)))) rfl
theorem kX11_141 : LkV "EndlessTug" 141 mX3_tire 1 := ⟨List.forall_mem_cons.mpr ⟨w_420, List.forall_mem_cons.mpr ⟨w_421, List.forall_mem_cons.mpr ⟨w_422, List.forall_mem_cons.mpr ⟨w_55, fun _ h => absurd h List.not_mem_nil⟩⟩⟩⟩, w_443, ⟨by decide +kernel, by decide +kernel, by decide +kernel⟩⟩
theorem w_423 : (.sameMethod "EndlessTug$Man" "EndlessTug$Man" "tire" "(LEndlessTug$Green;)I" : Cond) ∈ ws0 := ws0_mem (List.mem_append_right _ (List.mem_append_right _ (List.mem_append_left _ (List.mem_of_getElem? (i := 131) rfl)))) rfl
theorem w_424 : (.selects "EndlessTug$Drinker" yX3_tire yX1_tire : Cond) ∈ ws0 := ws0_mem (List.mem_append_right _ (List.mem_append_right _ (List.mem_append_left _ (List.mem_of_getElem? (i := 132) rfl)))) rfl
theorem w_425 : (.instanceMethod yX1_tire : Cond) ∈ ws0 := ws0_mem (List.mem_append_right _ (List.mem_append_right _ (List.mem_append_left _ (List.mem_of_getElem? (i := 133) rfl)))) rfl
theorem w_426 : (cdW mX1_tire : Cond) ∈ ws0 := ws0_mem (List.mem_append_right _ (List.mem_append_right _ (List.mem_append_left _ (List.mem_of_getElem? (i := 134) rfl)))) rfl
theorem kX11_141_X1 : LkO "EndlessTug" 141 "EndlessTug$Drinker" mX3_tire mX1_tire 1 := ⟨List.forall_mem_cons.mpr ⟨w_420, List.forall_mem_cons.mpr ⟨w_423, List.forall_mem_cons.mpr ⟨w_421, List.forall_mem_cons.mpr ⟨w_424, List.forall_mem_cons.mpr ⟨w_425, List.forall_mem_cons.mpr ⟨w_57, fun _ h => absurd h List.not_mem_nil⟩⟩⟩⟩⟩⟩, w_426, w_443, ⟨by decide +kernel, by decide +kernel, by decide +kernel⟩⟩
theorem w_428 : (.selects "EndlessTug$Preacher" yX3_tire yX5_tire : Cond) ∈ ws0 := ws0_mem (List.mem_append_right _ (List.mem_append_right _ (List.mem_append_left _ (List.mem_of_getElem? (i := 136) rfl)))) rfl
theorem w_429 : (.instanceMethod yX5_tire : Cond) ∈ ws0 := ws0_mem (List.mem_append_right _ (List.mem_append_right _ (List.mem_append_left _ (List.mem_of_getElem? (i := 137) rfl)))) rfl
theorem w_430 : (cdW mX5_tire : Cond) ∈ ws0 := ws0_mem (List.mem_append_right _ (List.mem_append_right _ (List.mem_append_left _ (List.mem_of_getElem? (i := 138) rfl)))) rfl
theorem kX11_141_X5 : LkO "EndlessTug" 141 "EndlessTug$Preacher" mX3_tire mX5_tire 1 := ⟨List.forall_mem_cons.mpr ⟨w_420, List.forall_mem_cons.mpr ⟨w_423, List.forall_mem_cons.mpr ⟨w_421, List.forall_mem_cons.mpr ⟨w_428, List.forall_mem_cons.mpr ⟨w_429, List.forall_mem_cons.mpr ⟨w_59, fun _ h => absurd h List.not_mem_nil⟩⟩⟩⟩⟩⟩, w_430, w_443, ⟨by decide +kernel, by decide +kernel, by decide +kernel⟩⟩
theorem w_435 : (.selects "EndlessTug$Son" yX3_tire yX7_tire : Cond) ∈ ws0 := ws0_mem (List.mem_append_right _ (List.mem_append_right _ (List.mem_append_left _ (List.mem_of_getElem? (i := 143) rfl)))) rfl
theorem w_432 : (.instanceMethod yX7_tire : Cond) ∈ ws0 := ws0_mem (List.mem_append_right _ (List.mem_append_right _ (List.mem_append_left _ (List.mem_of_getElem? (i := 140) rfl)))) rfl
theorem w_433 : (cdW mX7_tire : Cond) ∈ ws0 := ws0_mem (List.mem_append_right _ (List.mem_append_right _ (List.mem_append_left _ (List.mem_of_getElem? (i := 141) rfl)))) rfl
theorem kX11_141_X7 : LkO "EndlessTug" 141 "EndlessTug$Son" mX3_tire mX7_tire 1 := ⟨List.forall_mem_cons.mpr ⟨w_420, List.forall_mem_cons.mpr ⟨w_423, List.forall_mem_cons.mpr ⟨w_421, List.forall_mem_cons.mpr ⟨w_435, List.forall_mem_cons.mpr ⟨w_432, List.forall_mem_cons.mpr ⟨w_56, fun _ h => absurd h List.not_mem_nil⟩⟩⟩⟩⟩⟩, w_433, w_443, ⟨by decide +kernel, by decide +kernel, by decide +kernel⟩⟩
theorem w_436 : (.selects "EndlessTug$Stranger" yX3_tire yX8_tire : Cond) ∈ ws0 := ws0_mem (List.mem_append_right _ (List.mem_append_right _ (List.mem_append_left _ (List.mem_of_getElem? (i := 144) rfl)))) rfl
theorem w_437 : (.instanceMethod yX8_tire : Cond) ∈ ws0 := ws0_mem (List.mem_append_right _ (List.mem_append_right _ (List.mem_append_left _ (List.mem_of_getElem? (i := 145) rfl)))) rfl
theorem w_438 : (cdW mX8_tire : Cond) ∈ ws0 := ws0_mem (List.mem_append_right _ (List.mem_append_right _ (List.mem_append_left _ (List.mem_of_getElem? (i := 146) rfl)))) rfl
theorem kX11_141_X8 : LkO "EndlessTug" 141 "EndlessTug$Stranger" mX3_tire mX8_tire 1 := ⟨List.forall_mem_cons.mpr ⟨w_420, List.forall_mem_cons.mpr ⟨w_423, List.forall_mem_cons.mpr ⟨w_421, List.forall_mem_cons.mpr ⟨w_436, List.forall_mem_cons.mpr ⟨w_437, List.forall_mem_cons.mpr ⟨w_60, fun _ h => absurd h List.not_mem_nil⟩⟩⟩⟩⟩⟩, w_438, w_443, ⟨by decide +kernel, by decide +kernel, by decide +kernel⟩⟩
theorem w_440 : (.selects "EndlessTug$Woman" yX3_tire yX10_tire : Cond) ∈ ws0 := ws0_mem (List.mem_append_right _ (List.mem_append_right _ (List.mem_append_left _ (List.mem_of_getElem? (i := 148) rfl)))) rfl
theorem w_441 : (.instanceMethod yX10_tire : Cond) ∈ ws0 := ws0_mem (List.mem_append_right _ (List.mem_append_right _ (List.mem_append_left _ (List.mem_of_getElem? (i := 149) rfl)))) rfl
theorem w_442 : (cdW mX10_tire : Cond) ∈ ws0 := ws0_mem (List.mem_append_right _ (List.mem_append_right _ (List.mem_append_left _ (List.mem_of_getElem? (i := 150) rfl)))) rfl
theorem kX11_141_X10 : LkO "EndlessTug" 141 "EndlessTug$Woman" mX3_tire mX10_tire 1 := ⟨List.forall_mem_cons.mpr ⟨w_420, List.forall_mem_cons.mpr ⟨w_423, List.forall_mem_cons.mpr ⟨w_421, List.forall_mem_cons.mpr ⟨w_440, List.forall_mem_cons.mpr ⟨w_441, List.forall_mem_cons.mpr ⟨w_58, fun _ h => absurd h List.not_mem_nil⟩⟩⟩⟩⟩⟩, w_442, w_443, ⟨by decide +kernel, by decide +kernel, by decide +kernel⟩⟩
theorem w_444 : (.methodLink "EndlessTug" 145 yX3_letsGo : Cond) ∈ ws0 := ws0_mem (List.mem_append_right _ (List.mem_append_right _ (List.mem_append_left _ (List.mem_of_getElem? (i := 152) rfl)))) rfl
theorem w_445 : (.instanceMethod yX3_letsGo : Cond) ∈ ws0 := ws0_mem (List.mem_append_right _ (List.mem_append_right _ (List.mem_append_left _ (List.mem_of_getElem? (i := 153) rfl)))) rfl
theorem w_446 : (.selects "EndlessTug$Man" yX3_letsGo yX3_letsGo : Cond) ∈ ws0 := ws0_mem (List.mem_append_right _ (List.mem_append_right _ (List.mem_append_left _ (List.mem_of_getElem? (i := 154) rfl)))) rfl
theorem w_464 : (cdW mX3_letsGo : Cond) ∈ ws0 := ws0_mem (List.mem_append_right _ (List.mem_append_right _ (List.mem_append_left _ (List.mem_of_getElem? (i := 172) rfl)))) rfl
theorem kX11_145 : LkV "EndlessTug" 145 mX3_letsGo 2 := ⟨List.forall_mem_cons.mpr ⟨w_444, List.forall_mem_cons.mpr ⟨w_445, List.forall_mem_cons.mpr ⟨w_446, List.forall_mem_cons.mpr ⟨w_55, fun _ h => absurd h List.not_mem_nil⟩⟩⟩⟩, w_464, ⟨by decide +kernel, by decide +kernel, by decide +kernel⟩⟩
theorem w_447 : (.sameMethod "EndlessTug$Man" "EndlessTug$Man" "letsGo" "(LEndlessTug$Person;LEndlessTug$Green;)Z" : Cond) ∈ ws0 := ws0_mem (List.mem_append_right _ (List.mem_append_right _ (List.mem_append_left _ (List.mem_of_getElem? (i := 155) rfl)))) rfl
theorem w_448 : (.selects "EndlessTug$Drinker" yX3_letsGo yX1_letsGo : Cond) ∈ ws0 := ws0_mem (List.mem_append_right _ (List.mem_append_right _ (List.mem_append_left _ (List.mem_of_getElem? (i := 156) rfl)))) rfl
theorem w_449 : (.instanceMethod yX1_letsGo : Cond) ∈ ws0 := ws0_mem (List.mem_append_right _ (List.mem_append_right _ (List.mem_append_left _ (List.mem_of_getElem? (i := 157) rfl)))) rfl
theorem w_450 : (cdW mX1_letsGo : Cond) ∈ ws0 := ws0_mem (List.mem_append_right _ (List.mem_append_right _ (List.mem_append_left _ (List.mem_of_getElem? (i := 158) rfl)))) rfl
theorem kX11_145_X1 : LkO "EndlessTug" 145 "EndlessTug$Drinker" mX3_letsGo mX1_letsGo 2 := ⟨List.forall_mem_cons.mpr ⟨w_444, List.forall_mem_cons.mpr ⟨w_447, List.forall_mem_cons.mpr ⟨w_445, List.forall_mem_cons.mpr ⟨w_448, List.forall_mem_cons.mpr ⟨w_449, List.forall_mem_cons.mpr ⟨w_57, fun _ h => absurd h List.not_mem_nil⟩⟩⟩⟩⟩⟩, w_450, w_464, ⟨by decide +kernel, by decide +kernel, by decide +kernel⟩⟩
theorem w_452 : (.selects "EndlessTug$Preacher" yX3_letsGo yX7_letsGo : Cond) ∈ ws0 := ws0_mem (List.mem_append_right _ (List.mem_append_right _ (List.mem_append_left _ (List.mem_of_getElem? (i := 160) rfl)))) rfl
theorem w_453 : (.instanceMethod yX7_letsGo : Cond) ∈ ws0 := ws0_mem (List.mem_append_right _ (List.mem_append_right _ (List.mem_append_left _ (List.mem_of_getElem? (i := 161) rfl)))) rfl
theorem w_454 : (cdW mX7_letsGo : Cond) ∈ ws0 := ws0_mem (List.mem_append_right _ (List.mem_append_right _ (List.mem_append_left _ (List.mem_of_getElem? (i := 162) rfl)))) rfl
theorem kX11_145_X5 : LkO "EndlessTug" 145 "EndlessTug$Preacher" mX3_letsGo mX7_letsGo 2 := ⟨List.forall_mem_cons.mpr ⟨w_444, List.forall_mem_cons.mpr ⟨w_447, List.forall_mem_cons.mpr ⟨w_445, List.forall_mem_cons.mpr ⟨w_452, List.forall_mem_cons.mpr ⟨w_453, List.forall_mem_cons.mpr ⟨w_56, fun _ h => absurd h List.not_mem_nil⟩⟩⟩⟩⟩⟩, w_454, w_464, ⟨by decide +kernel, by decide +kernel, by decide +kernel⟩⟩
theorem w_455 : (.selects "EndlessTug$Son" yX3_letsGo yX7_letsGo : Cond) ∈ ws0 := ws0_mem (List.mem_append_right _ (List.mem_append_right _ (List.mem_append_left _ (List.mem_of_getElem? (i := 163) rfl)))) rfl
theorem kX11_145_X7 : LkO "EndlessTug" 145 "EndlessTug$Son" mX3_letsGo mX7_letsGo 2 := ⟨List.forall_mem_cons.mpr ⟨w_444, List.forall_mem_cons.mpr ⟨w_447, List.forall_mem_cons.mpr ⟨w_445, List.forall_mem_cons.mpr ⟨w_455, List.forall_mem_cons.mpr ⟨w_453, List.forall_mem_cons.mpr ⟨w_56, fun _ h => absurd h List.not_mem_nil⟩⟩⟩⟩⟩⟩, w_454, w_464, ⟨by decide +kernel, by decide +kernel, by decide +kernel⟩⟩
theorem w_456 : (.selects "EndlessTug$Stranger" yX3_letsGo yX8_letsGo : Cond) ∈ ws0 := ws0_mem (List.mem_append_right _ (List.mem_append_right _ (List.mem_append_left _ (List.mem_of_getElem? (i := 164) rfl)))) rfl
theorem w_457 : (.instanceMethod yX8_letsGo : Cond) ∈ ws0 := ws0_mem (List.mem_append_right _ (List.mem_append_right _ (List.mem_append_left _ (List.mem_of_getElem? (i := 165) rfl)))) rfl
theorem w_458 : (cdW mX8_letsGo : Cond) ∈ ws0 := ws0_mem (List.mem_append_right _ (List.mem_append_right _ (List.mem_append_left _ (List.mem_of_getElem? (i := 166) rfl)))) rfl
theorem kX11_145_X8 : LkO "EndlessTug" 145 "EndlessTug$Stranger" mX3_letsGo mX8_letsGo 2 := ⟨List.forall_mem_cons.mpr ⟨w_444, List.forall_mem_cons.mpr ⟨w_447, List.forall_mem_cons.mpr ⟨w_445, List.forall_mem_cons.mpr ⟨w_456, List.forall_mem_cons.mpr ⟨w_457, List.forall_mem_cons.mpr ⟨w_60, fun _ h => absurd h List.not_mem_nil⟩⟩⟩⟩⟩⟩, w_458, w_464, ⟨by decide +kernel, by decide +kernel, by decide +kernel⟩⟩
theorem w_460 : (.selects "EndlessTug$Woman" yX3_letsGo yX10_letsGo : Cond) ∈ ws0 := ws0_mem (List.mem_append_right _ (List.mem_append_right _ (List.mem_append_left _ (List.mem_of_getElem? (i := 168) rfl)))) rfl
theorem w_461 : (.instanceMethod yX10_letsGo : Cond) ∈ ws0 := ws0_mem (List.mem_append_right _ (List.mem_append_right _ (List.mem_append_left _ (List.mem_of_getElem? (i := 169) rfl)))) rfl
theorem w_462 : (cdW mX10_letsGo : Cond) ∈ ws0 := ws0_mem (List.mem_append_right _ (List.mem_append_right _ (List.mem_append_left _ (List.mem_of_getElem? (i := 170) rfl)))) rfl
theorem kX11_145_X10 : LkO "EndlessTug" 145 "EndlessTug$Woman" mX3_letsGo mX10_letsGo 2 := ⟨List.forall_mem_cons.mpr ⟨w_444, List.forall_mem_cons.mpr ⟨w_447, List.forall_mem_cons.mpr ⟨w_445, List.forall_mem_cons.mpr ⟨w_460, List.forall_mem_cons.mpr ⟨w_461, List.forall_mem_cons.mpr ⟨w_58, fun _ h => absurd h List.not_mem_nil⟩⟩⟩⟩⟩⟩, w_462, w_464, ⟨by decide +kernel, by decide +kernel, by decide +kernel⟩⟩
theorem w_477 : (.methodLink "EndlessTug" 153 yX3_isOf : Cond) ∈ ws0 := ws0_mem (List.mem_append_right _ (List.mem_append_right _ (List.mem_append_left _ (List.mem_of_getElem? (i := 185) rfl)))) rfl
theorem w_478 : (.instanceMethod yX3_isOf : Cond) ∈ ws0 := ws0_mem (List.mem_append_right _ (List.mem_append_right _ (List.mem_append_left _ (List.mem_of_getElem? (i := 186) rfl)))) rfl
theorem w_479 : (.selects "EndlessTug$Man" yX3_isOf yX3_isOf : Cond) ∈ ws0 := ws0_mem (List.mem_append_right _ (List.mem_append_right _ (List.mem_append_left _ (List.mem_of_getElem? (i := 187) rfl)))) rfl
theorem w_501 : (cdW mX3_isOf : Cond) ∈ ws0 := ws0_mem (List.mem_append_right _ (List.mem_append_right _ (List.mem_append_left _ (List.mem_of_getElem? (i := 209) rfl)))) rfl
theorem kX11_153 : LkV "EndlessTug" 153 mX3_isOf 1 := ⟨List.forall_mem_cons.mpr ⟨w_477, List.forall_mem_cons.mpr ⟨w_478, List.forall_mem_cons.mpr ⟨w_479, List.forall_mem_cons.mpr ⟨w_55, fun _ h => absurd h List.not_mem_nil⟩⟩⟩⟩, w_501, ⟨by decide +kernel, by decide +kernel, by decide +kernel⟩⟩
theorem w_480 : (.sameMethod "EndlessTug$Man" "EndlessTug$Man" "isOf" "(I)Z" : Cond) ∈ ws0 := ws0_mem (List.mem_append_right _ (List.mem_append_right _ (List.mem_append_left _ (List.mem_of_getElem? (i := 188) rfl)))) rfl
theorem w_481 : (.selects "EndlessTug$Drinker" yX3_isOf yX1_isOf : Cond) ∈ ws0 := ws0_mem (List.mem_append_right _ (List.mem_append_right _ (List.mem_append_left _ (List.mem_of_getElem? (i := 189) rfl)))) rfl
theorem w_482 : (.instanceMethod yX1_isOf : Cond) ∈ ws0 := ws0_mem (List.mem_append_right _ (List.mem_append_right _ (List.mem_append_left _ (List.mem_of_getElem? (i := 190) rfl)))) rfl
theorem w_483 : (cdW mX1_isOf : Cond) ∈ ws0 := ws0_mem (List.mem_append_right _ (List.mem_append_right _ (List.mem_append_left _ (List.mem_of_getElem? (i := 191) rfl)))) rfl
theorem kX11_153_X1 : LkO "EndlessTug" 153 "EndlessTug$Drinker" mX3_isOf mX1_isOf 1 := ⟨List.forall_mem_cons.mpr ⟨w_477, List.forall_mem_cons.mpr ⟨w_480, List.forall_mem_cons.mpr ⟨w_478, List.forall_mem_cons.mpr ⟨w_481, List.forall_mem_cons.mpr ⟨w_482, List.forall_mem_cons.mpr ⟨w_57, fun _ h => absurd h List.not_mem_nil⟩⟩⟩⟩⟩⟩, w_483, w_501, ⟨by decide +kernel, by decide +kernel, by decide +kernel⟩⟩
theorem w_485 : (.selects "EndlessTug$Preacher" yX3_isOf yX5_isOf : Cond) ∈ ws0 := ws0_mem (List.mem_append_right _ (List.mem_append_right _ (List.mem_append_left _ (List.mem_of_getElem? (i := 193) rfl)))) rfl
theorem w_486 : (.instanceMethod yX5_isOf : Cond) ∈ ws0 := ws0_mem (List.mem_append_right _ (List.mem_append_right _ (List.mem_append_left _ (List.mem_of_getElem? (i := 194) rfl)))) rfl
theorem w_487 : (cdW mX5_isOf : Cond) ∈ ws0 := ws0_mem (List.mem_append_right _ (List.mem_append_right _ (List.mem_append_left _ (List.mem_of_getElem? (i := 195) rfl)))) rfl
theorem kX11_153_X5 : LkO "EndlessTug" 153 "EndlessTug$Preacher" mX3_isOf mX5_isOf 1 := ⟨List.forall_mem_cons.mpr ⟨w_477, List.forall_mem_cons.mpr ⟨w_480, List.forall_mem_cons.mpr ⟨w_478, List.forall_mem_cons.mpr ⟨w_485, List.forall_mem_cons.mpr ⟨w_486, List.forall_mem_cons.mpr ⟨w_59, fun _ h => absurd h List.not_mem_nil⟩⟩⟩⟩⟩⟩, w_487, w_501, ⟨by decide +kernel, by decide +kernel, by decide +kernel⟩⟩
theorem w_492 : (.selects "EndlessTug$Son" yX3_isOf yX7_isOf : Cond) ∈ ws0 := ws0_mem (List.mem_append_right _ (List.mem_append_right _ (List.mem_append_left _ (List.mem_of_getElem? (i := 200) rfl)))) rfl
theorem w_489 : (.instanceMethod yX7_isOf : Cond) ∈ ws0 := ws0_mem (List.mem_append_right _ (List.mem_append_right _ (List.mem_append_left _ (List.mem_of_getElem? (i := 197) rfl)))) rfl
theorem w_490 : (cdW mX7_isOf : Cond) ∈ ws0 := ws0_mem (List.mem_append_right _ (List.mem_append_right _ (List.mem_append_left _ (List.mem_of_getElem? (i := 198) rfl)))) rfl
theorem kX11_153_X7 : LkO "EndlessTug" 153 "EndlessTug$Son" mX3_isOf mX7_isOf 1 := ⟨List.forall_mem_cons.mpr ⟨w_477, List.forall_mem_cons.mpr ⟨w_480, List.forall_mem_cons.mpr ⟨w_478, List.forall_mem_cons.mpr ⟨w_492, List.forall_mem_cons.mpr ⟨w_489, List.forall_mem_cons.mpr ⟨w_56, fun _ h => absurd h List.not_mem_nil⟩⟩⟩⟩⟩⟩, w_490, w_501, ⟨by decide +kernel, by decide +kernel, by decide +kernel⟩⟩
theorem w_493 : (.selects "EndlessTug$Stranger" yX3_isOf yX8_isOf : Cond) ∈ ws0 := ws0_mem (List.mem_append_right _ (List.mem_append_right _ (List.mem_append_left _ (List.mem_of_getElem? (i := 201) rfl)))) rfl
theorem w_494 : (.instanceMethod yX8_isOf : Cond) ∈ ws0 := ws0_mem (List.mem_append_right _ (List.mem_append_right _ (List.mem_append_left _ (List.mem_of_getElem? (i := 202) rfl)))) rfl
theorem w_495 : (cdW mX8_isOf : Cond) ∈ ws0 := ws0_mem (List.mem_append_right _ (List.mem_append_right _ (List.mem_append_left _ (List.mem_of_getElem? (i := 203) rfl)))) rfl
theorem kX11_153_X8 : LkO "EndlessTug" 153 "EndlessTug$Stranger" mX3_isOf mX8_isOf 1 := ⟨List.forall_mem_cons.mpr ⟨w_477, List.forall_mem_cons.mpr ⟨w_480, List.forall_mem_cons.mpr ⟨w_478, List.forall_mem_cons.mpr ⟨w_493, List.forall_mem_cons.mpr ⟨w_494, List.forall_mem_cons.mpr ⟨w_60, fun _ h => absurd h List.not_mem_nil⟩⟩⟩⟩⟩⟩, w_495, w_501, ⟨by decide +kernel, by decide +kernel, by decide +kernel⟩⟩
theorem w_497 : (.selects "EndlessTug$Woman" yX3_isOf yX10_isOf : Cond) ∈ ws0 := ws0_mem (List.mem_append_right _ (List.mem_append_right _ (List.mem_append_left _ (List.mem_of_getElem? (i := 205) rfl)))) rfl
theorem w_498 : (.instanceMethod yX10_isOf : Cond) ∈ ws0 := ws0_mem (List.mem_append_right _ (List.mem_append_right _ (List.mem_append_left _ (List.mem_of_getElem? (i := 206) rfl)))) rfl
theorem w_499 : (cdW mX10_isOf : Cond) ∈ ws0 := ws0_mem (List.mem_append_right _ (List.mem_append_right _ (List.mem_append_left _ (List.mem_of_getElem? (i := 207) rfl)))) rfl
theorem kX11_153_X10 : LkO "EndlessTug" 153 "EndlessTug$Woman" mX3_isOf mX10_isOf 1 := ⟨List.forall_mem_cons.mpr ⟨w_477, List.forall_mem_cons.mpr ⟨w_480, List.forall_mem_cons.mpr ⟨w_478, List.forall_mem_cons.mpr ⟨w_497, List.forall_mem_cons.mpr ⟨w_498, List.forall_mem_cons.mpr ⟨w_58, fun _ h => absurd h List.not_mem_nil⟩⟩⟩⟩⟩⟩, w_499, w_501, ⟨by decide +kernel, by decide +kernel, by decide +kernel⟩⟩
theorem w_507 : (.methodLink "EndlessTug" 157 yX2_canSwap : Cond) ∈ ws0 := ws0_mem (List.mem_append_right _ (List.mem_append_right _ (List.mem_append_left _ (List.mem_of_getElem? (i := 215) rfl)))) rfl
theorem w_508 : (.instanceMethod yX2_canSwap : Cond) ∈ ws0 := ws0_mem (List.mem_append_right _ (List.mem_append_right _ (List.mem_append_left _ (List.mem_of_getElem? (i := 216) rfl)))) rfl
theorem w_509 : (.selects "EndlessTug$Green" yX2_canSwap yX2_canSwap : Cond) ∈ ws0 := ws0_mem (List.mem_append_right _ (List.mem_append_right _ (List.mem_append_left _ (List.mem_of_getElem? (i := 217) rfl)))) rfl
theorem w_510 : (cdW mX2_canSwap : Cond) ∈ ws0 := ws0_mem (List.mem_append_right _ (List.mem_append_right _ (List.mem_append_left _ (List.mem_of_getElem? (i := 218) rfl)))) rfl
theorem kX11_157 : LkV "EndlessTug" 157 mX2_canSwap 2 := ⟨List.forall_mem_cons.mpr ⟨w_507, List.forall_mem_cons.mpr ⟨w_508, List.forall_mem_cons.mpr ⟨w_509, List.forall_mem_cons.mpr ⟨w_54, fun _ h => absurd h List.not_mem_nil⟩⟩⟩⟩, w_510, ⟨by decide +kernel, by decide +kernel, by decide +kernel⟩⟩
theorem w_513 : (.methodLink "EndlessTug" 162 yX2_swap : Cond) ∈ ws0 := ws0_mem (List.mem_append_right _ (List.mem_append_right _ (List.mem_append_left _ (List.mem_of_getElem? (i := 221) rfl)))) rfl
theorem w_514 : (.instanceMethod yX2_swap : Cond) ∈ ws0 := ws0_mem (List.mem_append_right _ (List.mem_append_right _ (List.mem_append_left _ (List.mem_of_getElem? (i := 222) rfl)))) rfl
theorem w_515 : (.selects "EndlessTug$Green" yX2_swap yX2_swap : Cond) ∈ ws0 := ws0_mem (List.mem_append_right _ (List.mem_append_right _ (List.mem_append_left _ (List.mem_of_getElem? (i := 223) rfl)))) rfl
theorem w_516 : (cdW mX2_swap : Cond) ∈ ws0 := ws0_mem (List.mem_append_right _ (List.mem_append_right _ (List.mem_append_left _ (List.mem_of_getElem? (i := 224) rfl)))) rfl
theorem kX11_162 : LkV "EndlessTug" 162 mX2_swap 2 := ⟨List.forall_mem_cons.mpr ⟨w_513, List.forall_mem_cons.mpr ⟨w_514, List.forall_mem_cons.mpr ⟨w_515, List.forall_mem_cons.mpr ⟨w_54, fun _ h => absurd h List.not_mem_nil⟩⟩⟩⟩, w_516, ⟨by decide +kernel, by decide +kernel, by decide +kernel⟩⟩
theorem w_523 : (.methodLink "EndlessTug" 166 yX2_go : Cond) ∈ ws0 := ws0_mem (List.mem_append_right _ (List.mem_append_right _ (List.mem_append_left _ (List.mem_of_getElem? (i := 231) rfl)))) rfl
theorem w_524 : (.instanceMethod yX2_go : Cond) ∈ ws0 := ws0_mem (List.mem_append_right _ (List.mem_append_right _ (List.mem_append_left _ (List.mem_of_getElem? (i := 232) rfl)))) rfl
theorem w_525 : (.selects "EndlessTug$Green" yX2_go yX2_go : Cond) ∈ ws0 := ws0_mem (List.mem_append_right _ (List.mem_append_right _ (List.mem_append_left _ (List.mem_of_getElem? (i := 233) rfl)))) rfl
theorem w_526 : (cdW mX2_go : Cond) ∈ ws0 := ws0_mem (List.mem_append_right _ (List.mem_append_right _ (List.mem_append_left _ (List.mem_of_getElem? (i := 234) rfl)))) rfl
theorem kX11_166 : LkV "EndlessTug" 166 mX2_go 1 := ⟨List.forall_mem_cons.mpr ⟨w_523, List.forall_mem_cons.mpr ⟨w_524, List.forall_mem_cons.mpr ⟨w_525, List.forall_mem_cons.mpr ⟨w_54, fun _ h => absurd h List.not_mem_nil⟩⟩⟩⟩, w_526, ⟨by decide +kernel, by decide +kernel, by decide +kernel⟩⟩
theorem w_559 : (.methodLink "EndlessTug" 170 yX2_become : Cond) ∈ ws0 := ws0_mem (List.mem_append_right _ (List.mem_append_right _ (List.mem_append_right _ (List.mem_append_left _ (List.mem_of_getElem? (i := 27) rfl))))) rfl
theorem w_560 : (.instanceMethod yX2_become : Cond) ∈ ws0 := ws0_mem (List.mem_append_right _ (List.mem_append_right _ (List.mem_append_right _ (List.mem_append_left _ (List.mem_of_getElem? (i := 28) rfl))))) rfl
theorem w_561 : (.selects "EndlessTug$Green" yX2_become yX2_become : Cond) ∈ ws0 := ws0_mem (List.mem_append_right _ (List.mem_append_right _ (List.mem_append_right _ (List.mem_append_left _ (List.mem_of_getElem? (i := 29) rfl))))) rfl
theorem w_562 : (cdW mX2_become : Cond) ∈ ws0 := ws0_mem (List.mem_append_right _ (List.mem_append_right _ (List.mem_append_right _ (List.mem_append_left _ (List.mem_of_getElem? (i := 30) rfl))))) rfl
theorem kX11_170 : LkV "EndlessTug" 170 mX2_become 1 := ⟨List.forall_mem_cons.mpr ⟨w_559, List.forall_mem_cons.mpr ⟨w_560, List.forall_mem_cons.mpr ⟨w_561, List.forall_mem_cons.mpr ⟨w_54, fun _ h => absurd h List.not_mem_nil⟩⟩⟩⟩, w_562, ⟨by decide +kernel, by decide +kernel, by decide +kernel⟩⟩
theorem w_575 : (.methodLink "EndlessTug" 174 yX2_towards : Cond) ∈ ws0 := ws0_mem (List.mem_append_right _ (List.mem_append_right _ (List.mem_append_right _ (List.mem_append_left _ (List.mem_of_getElem? (i := 43) rfl))))) rfl
theorem w_380 : (.instanceMethod yX2_towards : Cond) ∈ ws0 := ws0_mem (List.mem_append_right _ (List.mem_append_right _ (List.mem_append_left _ (List.mem_of_getElem? (i := 88) rfl)))) rfl
theorem w_381 : (.selects "EndlessTug$Green" yX2_towards yX2_towards : Cond) ∈ ws0 := ws0_mem (List.mem_append_right _ (List.mem_append_right _ (List.mem_append_left _ (List.mem_of_getElem? (i := 89) rfl)))) rfl
theorem w_382 : (cdW mX2_towards : Cond) ∈ ws0 := ws0_mem (List.mem_append_right _ (List.mem_append_right _ (List.mem_append_left _ (List.mem_of_getElem? (i := 90) rfl)))) rfl
theorem kX11_174 : LkV "EndlessTug" 174 mX2_towards 1 := ⟨List.forall_mem_cons.mpr ⟨w_575, List.forall_mem_cons.mpr ⟨w_380, List.forall_mem_cons.mpr ⟨w_381, List.forall_mem_cons.mpr ⟨w_54, fun _ h => absurd h List.not_mem_nil⟩⟩⟩⟩, w_382, ⟨by decide +kernel, by decide +kernel, by decide +kernel⟩⟩
theorem w_576 : (.methodLink "EndlessTug" 177 yX2_goDay : Cond) ∈ ws0 := ws0_mem (List.mem_append_right _ (List.mem_append_right _ (List.mem_append_right _ (List.mem_append_left _ (List.mem_of_getElem? (i := 44) rfl))))) rfl
theorem w_528 : (.instanceMethod yX2_goDay : Cond) ∈ ws0 := ws0_mem (List.mem_append_right _ (List.mem_append_right _ (List.mem_append_left _ (List.mem_of_getElem? (i := 236) rfl)))) rfl
theorem w_529 : (.selects "EndlessTug$Green" yX2_goDay yX2_goDay : Cond) ∈ ws0 := ws0_mem (List.mem_append_right _ (List.mem_append_right _ (List.mem_append_left _ (List.mem_of_getElem? (i := 237) rfl)))) rfl
theorem w_530 : (cdW mX2_goDay : Cond) ∈ ws0 := ws0_mem (List.mem_append_right _ (List.mem_append_right _ (List.mem_append_left _ (List.mem_of_getElem? (i := 238) rfl)))) rfl
theorem kX11_177 : LkV "EndlessTug" 177 mX2_goDay 0 := ⟨List.forall_mem_cons.mpr ⟨w_576, List.forall_mem_cons.mpr ⟨w_528, List.forall_mem_cons.mpr ⟨w_529, List.forall_mem_cons.mpr ⟨w_54, fun _ h => absurd h List.not_mem_nil⟩⟩⟩⟩, w_530, ⟨by decide +kernel, by decide +kernel, by decide +kernel⟩⟩
theorem w_590 : (.methodLink "EndlessTug" 181 yX0_clear : Cond) ∈ ws0 := ws0_mem (List.mem_append_right _ (List.mem_append_right _ (List.mem_append_right _ (List.mem_append_left _ (List.mem_of_getElem? (i := 58) rfl))))) rfl
theorem w_591 : (.instanceMethod yX0_clear : Cond) ∈ ws0 := ws0_mem (List.mem_append_right _ (List.mem_append_right _ (List.mem_append_right _ (List.mem_append_left _ (List.mem_of_getElem? (i := 59) rfl))))) rfl
theorem w_592 : (.selects "EndlessTug$Best" yX0_clear yX0_clear : Cond) ∈ ws0 := ws0_mem (List.mem_append_right _ (List.mem_append_right _ (List.mem_append_right _ (List.mem_append_left _ (List.mem_of_getElem? (i := 60) rfl))))) rfl
theorem w_593 : (cdW mX0_clear : Cond) ∈ ws0 := ws0_mem (List.mem_append_right _ (List.mem_append_right _ (List.mem_append_right _ (List.mem_append_left _ (List.mem_of_getElem? (i := 61) rfl))))) rfl
theorem kX11_181 : LkV "EndlessTug" 181 mX0_clear 0 := ⟨List.forall_mem_cons.mpr ⟨w_590, List.forall_mem_cons.mpr ⟨w_591, List.forall_mem_cons.mpr ⟨w_592, List.forall_mem_cons.mpr ⟨w_62, fun _ h => absurd h List.not_mem_nil⟩⟩⟩⟩, w_593, ⟨by decide +kernel, by decide +kernel, by decide +kernel⟩⟩
theorem w_594 : (.methodLink "EndlessTug" 184 yX0_offer : Cond) ∈ ws0 := ws0_mem (List.mem_append_right _ (List.mem_append_right _ (List.mem_append_right _ (List.mem_append_left _ (List.mem_of_getElem? (i := 62) rfl))))) rfl
theorem w_595 : (.instanceMethod yX0_offer : Cond) ∈ ws0 := ws0_mem (List.mem_append_right _ (List.mem_append_right _ (List.mem_append_right _ (List.mem_append_left _ (List.mem_of_getElem? (i := 63) rfl))))) rfl
theorem w_596 : (.selects "EndlessTug$Best" yX0_offer yX0_offer : Cond) ∈ ws0 := ws0_mem (List.mem_append_right _ (List.mem_append_right _ (List.mem_append_right _ (List.mem_append_left _ (List.mem_of_getElem? (i := 64) rfl))))) rfl
theorem w_597 : (cdW mX0_offer : Cond) ∈ ws0 := ws0_mem (List.mem_append_right _ (List.mem_append_right _ (List.mem_append_right _ (List.mem_append_left _ (List.mem_of_getElem? (i := 65) rfl))))) rfl
theorem kX11_184 : LkV "EndlessTug" 184 mX0_offer 2 := ⟨List.forall_mem_cons.mpr ⟨w_594, List.forall_mem_cons.mpr ⟨w_595, List.forall_mem_cons.mpr ⟨w_596, List.forall_mem_cons.mpr ⟨w_62, fun _ h => absurd h List.not_mem_nil⟩⟩⟩⟩, w_597, ⟨by decide +kernel, by decide +kernel, by decide +kernel⟩⟩
theorem w_598 : (.methodLink "EndlessTug" 187 yX11_bestOrNone : Cond) ∈ ws0 := ws0_mem (List.mem_append_right _ (List.mem_append_right _ (List.mem_append_right _ (List.mem_append_left _ (List.mem_of_getElem? (i := 66) rfl))))) rfl
theorem w_600 : (.instanceMethod yX11_bestOrNone : Cond) ∈ ws0 := ws0_mem (List.mem_append_right _ (List.mem_append_right _ (List.mem_append_right _ (List.mem_append_left _ (List.mem_of_getElem? (i := 68) rfl))))) rfl
theorem w_4 : (.selects "EndlessTug" yX11_bestOrNone yX11_bestOrNone : Cond) ∈ ws0 := ws0_mem (List.mem_append_left _ (List.mem_of_getElem? (i := 4) (by decide +kernel))) rfl
theorem w_601 : (cdW mX11_bestOrNone : Cond) ∈ ws0 := ws0_mem (List.mem_append_right _ (List.mem_append_right _ (List.mem_append_right _ (List.mem_append_left _ (List.mem_of_getElem? (i := 69) rfl))))) rfl
theorem kX11_187 : LkV "EndlessTug" 187 mX11_bestOrNone 0 := ⟨List.forall_mem_cons.mpr ⟨w_598, List.forall_mem_cons.mpr ⟨w_600, List.forall_mem_cons.mpr ⟨w_4, List.forall_mem_cons.mpr ⟨w_53, fun _ h => absurd h List.not_mem_nil⟩⟩⟩⟩, w_601, ⟨by decide +kernel, by decide +kernel, by decide +kernel⟩⟩
theorem w_622 : (.methodLink "EndlessTug" 193 yX2_setOff : Cond) ∈ ws0 := ws0_mem (List.mem_append_right _ (List.mem_append_right _ (List.mem_append_right _ (List.mem_append_left _ (List.mem_of_getElem? (i := 90) rfl))))) rfl
theorem w_623 : (.instanceMethod yX2_setOff : Cond) ∈ ws0 := ws0_mem (List.mem_append_right _ (List.mem_append_right _ (List.mem_append_right _ (List.mem_append_left _ (List.mem_of_getElem? (i := 91) rfl))))) rfl
theorem w_624 : (.selects "EndlessTug$Green" yX2_setOff yX2_setOff : Cond) ∈ ws0 := ws0_mem (List.mem_append_right _ (List.mem_append_right _ (List.mem_append_right _ (List.mem_append_left _ (List.mem_of_getElem? (i := 92) rfl))))) rfl
theorem w_625 : (cdW mX2_setOff : Cond) ∈ ws0 := ws0_mem (List.mem_append_right _ (List.mem_append_right _ (List.mem_append_right _ (List.mem_append_left _ (List.mem_of_getElem? (i := 93) rfl))))) rfl
theorem kX11_193 : LkV "EndlessTug" 193 mX2_setOff 1 := ⟨List.forall_mem_cons.mpr ⟨w_622, List.forall_mem_cons.mpr ⟨w_623, List.forall_mem_cons.mpr ⟨w_624, List.forall_mem_cons.mpr ⟨w_54, fun _ h => absurd h List.not_mem_nil⟩⟩⟩⟩, w_625, ⟨by decide +kernel, by decide +kernel, by decide +kernel⟩⟩
theorem w_626 : (.methodLink "EndlessTug" 196 yX2_pullOfSet : Cond) ∈ ws0 := ws0_mem (List.mem_append_right _ (List.mem_append_right _ (List.mem_append_right _ (List.mem_append_left _ (List.mem_of_getElem? (i := 94) rfl))))) rfl
theorem w_627 : (.instanceMethod yX2_pullOfSet : Cond) ∈ ws0 := ws0_mem (List.mem_append_right _ (List.mem_append_right _ (List.mem_append_right _ (List.mem_append_left _ (List.mem_of_getElem? (i := 95) rfl))))) rfl
theorem w_628 : (.selects "EndlessTug$Green" yX2_pullOfSet yX2_pullOfSet : Cond) ∈ ws0 := ws0_mem (List.mem_append_right _ (List.mem_append_right _ (List.mem_append_right _ (List.mem_append_left _ (List.mem_of_getElem? (i := 96) rfl))))) rfl
theorem w_629 : (cdW mX2_pullOfSet : Cond) ∈ ws0 := ws0_mem (List.mem_append_right _ (List.mem_append_right _ (List.mem_append_right _ (List.mem_append_left _ (List.mem_of_getElem? (i := 97) rfl))))) rfl
theorem kX11_196 : LkV "EndlessTug" 196 mX2_pullOfSet 1 := ⟨List.forall_mem_cons.mpr ⟨w_626, List.forall_mem_cons.mpr ⟨w_627, List.forall_mem_cons.mpr ⟨w_628, List.forall_mem_cons.mpr ⟨w_54, fun _ h => absurd h List.not_mem_nil⟩⟩⟩⟩, w_629, ⟨by decide +kernel, by decide +kernel, by decide +kernel⟩⟩
theorem w_630 : (.methodLink "EndlessTug" 199 yJ6_bitCount_0f7a4 : Cond) ∈ ws0 := ws0_mem (List.mem_append_right _ (List.mem_append_right _ (List.mem_append_right _ (List.mem_append_left _ (List.mem_of_getElem? (i := 98) rfl))))) rfl
theorem w_631 : (.static yJ6_bitCount_0f7a4 : Cond) ∈ ws0 := ws0_mem (List.mem_append_right _ (List.mem_append_right _ (List.mem_append_right _ (List.mem_append_left _ (List.mem_of_getElem? (i := 99) rfl))))) rfl
theorem w_67 : (.initialized "java/lang/Integer" : Cond) ∈ ws0 := ws0_mem (List.mem_append_right _ (List.mem_append_left _ (List.mem_of_getElem? (i := 15) rfl))) rfl
theorem w_632 : (cdW mJ6_bitCount_0f7a4 : Cond) ∈ ws0 := ws0_mem (List.mem_append_right _ (List.mem_append_right _ (List.mem_append_right _ (List.mem_append_left _ (List.mem_of_getElem? (i := 100) rfl))))) rfl
theorem kX11_199 : LkS "EndlessTug" 199 mJ6_bitCount_0f7a4 1 := ⟨List.forall_mem_cons.mpr ⟨w_630, List.forall_mem_cons.mpr ⟨w_631, List.forall_mem_cons.mpr ⟨w_67, fun _ h => absurd h List.not_mem_nil⟩⟩⟩, w_632, ⟨by decide +kernel, by decide +kernel, by decide +kernel⟩⟩
theorem w_640 : (.methodLink "EndlessTug" 204 yJ9_abs_0f7a4 : Cond) ∈ ws0 := ws0_mem (List.mem_append_right _ (List.mem_append_right _ (List.mem_append_right _ (List.mem_append_left _ (List.mem_of_getElem? (i := 108) rfl))))) rfl
theorem w_641 : (.static yJ9_abs_0f7a4 : Cond) ∈ ws0 := ws0_mem (List.mem_append_right _ (List.mem_append_right _ (List.mem_append_right _ (List.mem_append_left _ (List.mem_of_getElem? (i := 109) rfl))))) rfl
theorem w_66 : (.initialized "java/lang/Math" : Cond) ∈ ws0 := ws0_mem (List.mem_append_right _ (List.mem_append_left _ (List.mem_of_getElem? (i := 14) rfl))) rfl
theorem w_642 : (cdW mJ9_abs_0f7a4 : Cond) ∈ ws0 := ws0_mem (List.mem_append_right _ (List.mem_append_right _ (List.mem_append_right _ (List.mem_append_left _ (List.mem_of_getElem? (i := 110) rfl))))) rfl
theorem kX11_204 : LkS "EndlessTug" 204 mJ9_abs_0f7a4 1 := ⟨List.forall_mem_cons.mpr ⟨w_640, List.forall_mem_cons.mpr ⟨w_641, List.forall_mem_cons.mpr ⟨w_66, fun _ h => absurd h List.not_mem_nil⟩⟩⟩, w_642, ⟨by decide +kernel, by decide +kernel, by decide +kernel⟩⟩
theorem w_647 : (.methodLink "EndlessTug" 210 yX9_add : Cond) ∈ ws0 := ws0_mem (List.mem_append_right _ (List.mem_append_right _ (List.mem_append_right _ (List.mem_append_left _ (List.mem_of_getElem? (i := 115) rfl))))) rfl
theorem w_648 : (.instanceMethod yX9_add : Cond) ∈ ws0 := ws0_mem (List.mem_append_right _ (List.mem_append_right _ (List.mem_append_right _ (List.mem_append_left _ (List.mem_of_getElem? (i := 116) rfl))))) rfl
theorem w_649 : (.selects "EndlessTug$Tape" yX9_add yX9_add : Cond) ∈ ws0 := ws0_mem (List.mem_append_right _ (List.mem_append_right _ (List.mem_append_right _ (List.mem_append_left _ (List.mem_of_getElem? (i := 117) rfl))))) rfl
theorem w_650 : (cdW mX9_add : Cond) ∈ ws0 := ws0_mem (List.mem_append_right _ (List.mem_append_right _ (List.mem_append_right _ (List.mem_append_left _ (List.mem_of_getElem? (i := 118) rfl))))) rfl
theorem kX11_210 : LkV "EndlessTug" 210 mX9_add 1 := ⟨List.forall_mem_cons.mpr ⟨w_647, List.forall_mem_cons.mpr ⟨w_648, List.forall_mem_cons.mpr ⟨w_649, List.forall_mem_cons.mpr ⟨w_63, fun _ h => absurd h List.not_mem_nil⟩⟩⟩⟩, w_650, ⟨by decide +kernel, by decide +kernel, by decide +kernel⟩⟩
theorem w_659 : (.methodLink "EndlessTug" 213 yX9_tell : Cond) ∈ ws0 := ws0_mem (List.mem_append_right _ (List.mem_append_right _ (List.mem_append_right _ (List.mem_append_left _ (List.mem_of_getElem? (i := 127) rfl))))) rfl
theorem w_660 : (.instanceMethod yX9_tell : Cond) ∈ ws0 := ws0_mem (List.mem_append_right _ (List.mem_append_right _ (List.mem_append_right _ (List.mem_append_left _ (List.mem_of_getElem? (i := 128) rfl))))) rfl
theorem w_661 : (.selects "EndlessTug$Tape" yX9_tell yX9_tell : Cond) ∈ ws0 := ws0_mem (List.mem_append_right _ (List.mem_append_right _ (List.mem_append_right _ (List.mem_append_left _ (List.mem_of_getElem? (i := 129) rfl))))) rfl
theorem w_662 : (cdW mX9_tell : Cond) ∈ ws0 := ws0_mem (List.mem_append_right _ (List.mem_append_right _ (List.mem_append_right _ (List.mem_append_left _ (List.mem_of_getElem? (i := 130) rfl))))) rfl
theorem kX11_213 : LkV "EndlessTug" 213 mX9_tell 1 := ⟨List.forall_mem_cons.mpr ⟨w_659, List.forall_mem_cons.mpr ⟨w_660, List.forall_mem_cons.mpr ⟨w_661, List.forall_mem_cons.mpr ⟨w_63, fun _ h => absurd h List.not_mem_nil⟩⟩⟩⟩, w_662, ⟨by decide +kernel, by decide +kernel, by decide +kernel⟩⟩
theorem w_780 : (.methodLink "EndlessTug" 216 yX11_isSheet : Cond) ∈ ws0 := ws0_mem (List.mem_append_right _ (List.mem_append_right _ (List.mem_append_right _ (List.mem_append_right _ (List.mem_append_left _ (List.mem_of_getElem? (i := 8) rfl)))))) rfl
theorem w_781 : (.static yX11_isSheet : Cond) ∈ ws0 := ws0_mem (List.mem_append_right _ (List.mem_append_right _ (List.mem_append_right _ (List.mem_append_right _ (List.mem_append_left _ (List.mem_of_getElem? (i := 9) rfl)))))) rfl
theorem w_782 : (cdW mX11_isSheet : Cond) ∈ ws0 := ws0_mem (List.mem_append_right _ (List.mem_append_right _ (List.mem_append_right _ (List.mem_append_right _ (List.mem_append_left _ (List.mem_of_getElem? (i := 10) rfl)))))) rfl
theorem kX11_216 : LkS "EndlessTug" 216 mX11_isSheet 1 := ⟨List.forall_mem_cons.mpr ⟨w_780, List.forall_mem_cons.mpr ⟨w_781, List.forall_mem_cons.mpr ⟨w_53, fun _ h => absurd h List.not_mem_nil⟩⟩⟩, w_782, ⟨by decide +kernel, by decide +kernel, by decide +kernel⟩⟩
theorem w_784 : (.methodLink "EndlessTug" 220 yX6_begin : Cond) ∈ ws0 := ws0_mem (List.mem_append_right _ (List.mem_append_right _ (List.mem_append_right _ (List.mem_append_right _ (List.mem_append_left _ (List.mem_of_getElem? (i := 12) rfl)))))) rfl
theorem w_785 : (.instanceMethod yX6_begin : Cond) ∈ ws0 := ws0_mem (List.mem_append_right _ (List.mem_append_right _ (List.mem_append_right _ (List.mem_append_right _ (List.mem_append_left _ (List.mem_of_getElem? (i := 13) rfl)))))) rfl
theorem w_786 : (.selects "EndlessTug$Sheet" yX6_begin yX6_begin : Cond) ∈ ws0 := ws0_mem (List.mem_append_right _ (List.mem_append_right _ (List.mem_append_right _ (List.mem_append_right _ (List.mem_append_left _ (List.mem_of_getElem? (i := 14) rfl)))))) rfl
theorem w_787 : (cdW mX6_begin : Cond) ∈ ws0 := ws0_mem (List.mem_append_right _ (List.mem_append_right _ (List.mem_append_right _ (List.mem_append_right _ (List.mem_append_left _ (List.mem_of_getElem? (i := 15) rfl)))))) rfl
theorem kX11_220 : LkV "EndlessTug" 220 mX6_begin 2 := ⟨List.forall_mem_cons.mpr ⟨w_784, List.forall_mem_cons.mpr ⟨w_785, List.forall_mem_cons.mpr ⟨w_786, List.forall_mem_cons.mpr ⟨w_64, fun _ h => absurd h List.not_mem_nil⟩⟩⟩⟩, w_787, ⟨by decide +kernel, by decide +kernel, by decide +kernel⟩⟩
theorem w_795 : (.methodLink "EndlessTug" 224 yX6_isMissing : Cond) ∈ ws0 := ws0_mem (List.mem_append_right _ (List.mem_append_right _ (List.mem_append_right _ (List.mem_append_right _ (List.mem_append_left _ (List.mem_of_getElem? (i := 23) rfl)))))) rfl
theorem w_796 : (.instanceMethod yX6_isMissing : Cond) ∈ ws0 := ws0_mem (List.mem_append_right _ (List.mem_append_right _ (List.mem_append_right _ (List.mem_append_right _ (List.mem_append_left _ (List.mem_of_getElem? (i := 24) rfl)))))) rfl
theorem w_797 : (.selects "EndlessTug$Sheet" yX6_isMissing yX6_isMissing : Cond) ∈ ws0 := ws0_mem (List.mem_append_right _ (List.mem_append_right _ (List.mem_append_right _ (List.mem_append_right _ (List.mem_append_left _ (List.mem_of_getElem? (i := 25) rfl)))))) rfl
theorem w_798 : (cdW mX6_isMissing : Cond) ∈ ws0 := ws0_mem (List.mem_append_right _ (List.mem_append_right _ (List.mem_append_right _ (List.mem_append_right _ (List.mem_append_left _ (List.mem_of_getElem? (i := 26) rfl)))))) rfl
theorem kX11_224 : LkV "EndlessTug" 224 mX6_isMissing 0 := ⟨List.forall_mem_cons.mpr ⟨w_795, List.forall_mem_cons.mpr ⟨w_796, List.forall_mem_cons.mpr ⟨w_797, List.forall_mem_cons.mpr ⟨w_64, fun _ h => absurd h List.not_mem_nil⟩⟩⟩⟩, w_798, ⟨by decide +kernel, by decide +kernel, by decide +kernel⟩⟩
theorem w_800 : (.methodLink "EndlessTug" 232 yX6_put : Cond) ∈ ws0 := ws0_mem (List.mem_append_right _ (List.mem_append_right _ (List.mem_append_right _ (List.mem_append_right _ (List.mem_append_left _ (List.mem_of_getElem? (i := 28) rfl)))))) rfl
theorem w_801 : (.instanceMethod yX6_put : Cond) ∈ ws0 := ws0_mem (List.mem_append_right _ (List.mem_append_right _ (List.mem_append_right _ (List.mem_append_right _ (List.mem_append_left _ (List.mem_of_getElem? (i := 29) rfl)))))) rfl
theorem w_802 : (.selects "EndlessTug$Sheet" yX6_put yX6_put : Cond) ∈ ws0 := ws0_mem (List.mem_append_right _ (List.mem_append_right _ (List.mem_append_right _ (List.mem_append_right _ (List.mem_append_left _ (List.mem_of_getElem? (i := 30) rfl)))))) rfl
theorem w_803 : (cdW mX6_put : Cond) ∈ ws0 := ws0_mem (List.mem_append_right _ (List.mem_append_right _ (List.mem_append_right _ (List.mem_append_right _ (List.mem_append_left _ (List.mem_of_getElem? (i := 31) rfl)))))) rfl
theorem kX11_232 : LkV "EndlessTug" 232 mX6_put 2 := ⟨List.forall_mem_cons.mpr ⟨w_800, List.forall_mem_cons.mpr ⟨w_801, List.forall_mem_cons.mpr ⟨w_802, List.forall_mem_cons.mpr ⟨w_64, fun _ h => absurd h List.not_mem_nil⟩⟩⟩⟩, w_803, ⟨by decide +kernel, by decide +kernel, by decide +kernel⟩⟩
theorem w_808 : (.methodLink "EndlessTug" 239 yX6_holds : Cond) ∈ ws0 := ws0_mem (List.mem_append_right _ (List.mem_append_right _ (List.mem_append_right _ (List.mem_append_right _ (List.mem_append_left _ (List.mem_of_getElem? (i := 36) rfl)))))) rfl
theorem w_809 : (.instanceMethod yX6_holds : Cond) ∈ ws0 := ws0_mem (List.mem_append_right _ (List.mem_append_right _ (List.mem_append_right _ (List.mem_append_right _ (List.mem_append_left _ (List.mem_of_getElem? (i := 37) rfl)))))) rfl
theorem w_810 : (.selects "EndlessTug$Sheet" yX6_holds yX6_holds : Cond) ∈ ws0 := ws0_mem (List.mem_append_right _ (List.mem_append_right _ (List.mem_append_right _ (List.mem_append_right _ (List.mem_append_left _ (List.mem_of_getElem? (i := 38) rfl)))))) rfl
theorem w_811 : (cdW mX6_holds : Cond) ∈ ws0 := ws0_mem (List.mem_append_right _ (List.mem_append_right _ (List.mem_append_right _ (List.mem_append_right _ (List.mem_append_left _ (List.mem_of_getElem? (i := 39) rfl)))))) rfl
theorem kX11_239 : LkV "EndlessTug" 239 mX6_holds 2 := ⟨List.forall_mem_cons.mpr ⟨w_808, List.forall_mem_cons.mpr ⟨w_809, List.forall_mem_cons.mpr ⟨w_810, List.forall_mem_cons.mpr ⟨w_64, fun _ h => absurd h List.not_mem_nil⟩⟩⟩⟩, w_811, ⟨by decide +kernel, by decide +kernel, by decide +kernel⟩⟩
theorem w_812 : (.methodLink "EndlessTug" 242 ⟨"java/lang/System", "arraycopy", "(Ljava/lang/Object;ILjava/lang/Object;II)V"⟩ : Cond) ∈ ws0 := ws0_mem (List.mem_append_right _ (List.mem_append_right _ (List.mem_append_right _ (List.mem_append_right _ (List.mem_append_left _ (List.mem_of_getElem? (i := 40) rfl)))))) rfl
theorem w_814 : (.native ⟨"java/lang/System", "arraycopy", "(Ljava/lang/Object;ILjava/lang/Object;II)V"⟩ : Cond) ∈ ws0 := ws0_mem (List.mem_append_right _ (List.mem_append_right _ (List.mem_append_right _ (List.mem_append_right _ (List.mem_append_left _ (List.mem_of_getElem? (i := 42) rfl)))))) rfl
theorem w_813 : (.static ⟨"java/lang/System", "arraycopy", "(Ljava/lang/Object;ILjava/lang/Object;II)V"⟩ : Cond) ∈ ws0 := ws0_mem (List.mem_append_right _ (List.mem_append_right _ (List.mem_append_right _ (List.mem_append_right _ (List.mem_append_left _ (List.mem_of_getElem? (i := 41) rfl)))))) rfl
theorem w_73 : (.initialized "java/lang/System" : Cond) ∈ ws0 := ws0_mem (List.mem_append_right _ (List.mem_append_left _ (List.mem_of_getElem? (i := 21) rfl))) rfl
theorem kX11_242 : ∀ w ∈ ([.methodLink "EndlessTug" 242 arraycopyName, .native arraycopyName, .static arraycopyName, .initialized "java/lang/System"] : List Cond), w ∈ ws0 := List.forall_mem_cons.mpr ⟨w_812, List.forall_mem_cons.mpr ⟨w_814, List.forall_mem_cons.mpr ⟨w_813, List.forall_mem_cons.mpr ⟨w_73, fun _ h => absurd h List.not_mem_nil⟩⟩⟩⟩
theorem w_828 : (.methodLink "EndlessTug" 250 yX2_goesAs : Cond) ∈ ws0 := ws0_mem (List.mem_append_right _ (List.mem_append_right _ (List.mem_append_right _ (List.mem_append_right _ (List.mem_append_left _ (List.mem_of_getElem? (i := 56) rfl)))))) rfl
theorem w_829 : (.instanceMethod yX2_goesAs : Cond) ∈ ws0 := ws0_mem (List.mem_append_right _ (List.mem_append_right _ (List.mem_append_right _ (List.mem_append_right _ (List.mem_append_left _ (List.mem_of_getElem? (i := 57) rfl)))))) rfl
theorem w_830 : (.selects "EndlessTug$Green" yX2_goesAs yX2_goesAs : Cond) ∈ ws0 := ws0_mem (List.mem_append_right _ (List.mem_append_right _ (List.mem_append_right _ (List.mem_append_right _ (List.mem_append_left _ (List.mem_of_getElem? (i := 58) rfl)))))) rfl
theorem w_831 : (cdW mX2_goesAs : Cond) ∈ ws0 := ws0_mem (List.mem_append_right _ (List.mem_append_right _ (List.mem_append_right _ (List.mem_append_right _ (List.mem_append_left _ (List.mem_of_getElem? (i := 59) rfl)))))) rfl
theorem kX11_250 : LkV "EndlessTug" 250 mX2_goesAs 1 := ⟨List.forall_mem_cons.mpr ⟨w_828, List.forall_mem_cons.mpr ⟨w_829, List.forall_mem_cons.mpr ⟨w_830, List.forall_mem_cons.mpr ⟨w_54, fun _ h => absurd h List.not_mem_nil⟩⟩⟩⟩, w_831, ⟨by decide +kernel, by decide +kernel, by decide +kernel⟩⟩
theorem w_848 : (.methodLink "EndlessTug" 258 yX2_sizeOf : Cond) ∈ ws0 := ws0_mem (List.mem_append_right _ (List.mem_append_right _ (List.mem_append_right _ (List.mem_append_right _ (List.mem_append_left _ (List.mem_of_getElem? (i := 76) rfl)))))) rfl
theorem w_849 : (.instanceMethod yX2_sizeOf : Cond) ∈ ws0 := ws0_mem (List.mem_append_right _ (List.mem_append_right _ (List.mem_append_right _ (List.mem_append_right _ (List.mem_append_left _ (List.mem_of_getElem? (i := 77) rfl)))))) rfl
theorem w_850 : (.selects "EndlessTug$Green" yX2_sizeOf yX2_sizeOf : Cond) ∈ ws0 := ws0_mem (List.mem_append_right _ (List.mem_append_right _ (List.mem_append_right _ (List.mem_append_right _ (List.mem_append_left _ (List.mem_of_getElem? (i := 78) rfl)))))) rfl
theorem w_851 : (cdW mX2_sizeOf : Cond) ∈ ws0 := ws0_mem (List.mem_append_right _ (List.mem_append_right _ (List.mem_append_right _ (List.mem_append_right _ (List.mem_append_left _ (List.mem_of_getElem? (i := 79) rfl)))))) rfl
theorem kX11_258 : LkV "EndlessTug" 258 mX2_sizeOf 1 := ⟨List.forall_mem_cons.mpr ⟨w_848, List.forall_mem_cons.mpr ⟨w_849, List.forall_mem_cons.mpr ⟨w_850, List.forall_mem_cons.mpr ⟨w_54, fun _ h => absurd h List.not_mem_nil⟩⟩⟩⟩, w_851, ⟨by decide +kernel, by decide +kernel, by decide +kernel⟩⟩
theorem w_852 : (.methodLink "EndlessTug" 261 yX2_tiredTogether : Cond) ∈ ws0 := ws0_mem (List.mem_append_right _ (List.mem_append_right _ (List.mem_append_right _ (List.mem_append_right _ (List.mem_append_left _ (List.mem_of_getElem? (i := 80) rfl)))))) rfl
theorem w_853 : (.instanceMethod yX2_tiredTogether : Cond) ∈ ws0 := ws0_mem (List.mem_append_right _ (List.mem_append_right _ (List.mem_append_right _ (List.mem_append_right _ (List.mem_append_left _ (List.mem_of_getElem? (i := 81) rfl)))))) rfl
theorem w_854 : (.selects "EndlessTug$Green" yX2_tiredTogether yX2_tiredTogether : Cond) ∈ ws0 := ws0_mem (List.mem_append_right _ (List.mem_append_right _ (List.mem_append_right _ (List.mem_append_right _ (List.mem_append_left _ (List.mem_of_getElem? (i := 82) rfl)))))) rfl
theorem w_855 : (cdW mX2_tiredTogether : Cond) ∈ ws0 := ws0_mem (List.mem_append_right _ (List.mem_append_right _ (List.mem_append_right _ (List.mem_append_right _ (List.mem_append_left _ (List.mem_of_getElem? (i := 83) rfl)))))) rfl
theorem kX11_261 : LkV "EndlessTug" 261 mX2_tiredTogether 0 := ⟨List.forall_mem_cons.mpr ⟨w_852, List.forall_mem_cons.mpr ⟨w_853, List.forall_mem_cons.mpr ⟨w_854, List.forall_mem_cons.mpr ⟨w_54, fun _ h => absurd h List.not_mem_nil⟩⟩⟩⟩, w_855, ⟨by decide +kernel, by decide +kernel, by decide +kernel⟩⟩
theorem w_221 : (.methodLink "EndlessTug$Best" 1 Lib.objectInit : Cond) ∈ ws0 := ws0_mem (List.mem_append_right _ (List.mem_append_left _ (List.mem_of_getElem? (i := 169) rfl))) rfl
theorem kX0_1 : ∀ w ∈ ([.methodLink "EndlessTug$Best" 1 Lib.objectInit, .instanceMethod Lib.objectInit, .code Lib.objectInit ⟨#[0xb1]⟩ 1 none] : List Cond), w ∈ ws0 := List.forall_mem_cons.mpr ⟨w_221, List.forall_mem_cons.mpr ⟨w_80, List.forall_mem_cons.mpr ⟨w_81, fun _ h => absurd h List.not_mem_nil⟩⟩⟩
theorem w_115 : (.methodLink "EndlessTug$Drinker" 3 yX3_init : Cond) ∈ ws0 := ws0_mem (List.mem_append_right _ (List.mem_append_left _ (List.mem_of_getElem? (i := 63) rfl))) rfl
theorem w_94 : (.instanceMethod yX3_init : Cond) ∈ ws0 := ws0_mem (List.mem_append_right _ (List.mem_append_left _ (List.mem_of_getElem? (i := 42) rfl))) rfl
theorem w_95 : (cdW mX3_init : Cond) ∈ ws0 := ws0_mem (List.mem_append_right _ (List.mem_append_left _ (List.mem_of_getElem? (i := 43) rfl))) rfl
theorem kX1_3 : LkI "EndlessTug$Drinker" 3 mX3_init 1 := ⟨List.forall_mem_cons.mpr ⟨w_115, List.forall_mem_cons.mpr ⟨w_94, List.forall_mem_cons.mpr ⟨w_55, fun _ h => absurd h List.not_mem_nil⟩⟩⟩, w_95, rfl, rfl, ⟨by decide +kernel, by decide +kernel, by decide +kernel⟩⟩
theorem w_117 : (.superclass "EndlessTug$Drinker" "EndlessTug$Man" : Cond) ∈ ws0 := ws0_mem (List.mem_append_right _ (List.mem_append_left _ (List.mem_of_getElem? (i := 65) rfl))) rfl
theorem w_484 : (.methodLink "EndlessTug$Drinker" 9 yX3_isOf : Cond) ∈ ws0 := ws0_mem (List.mem_append_right _ (List.mem_append_right _ (List.mem_append_left _ (List.mem_of_getElem? (i := 192) rfl)))) rfl
theorem kX1_9 : LkSU "EndlessTug$Drinker" 9 mX3_isOf 1 := ⟨List.forall_mem_cons.mpr ⟨w_484, List.forall_mem_cons.mpr ⟨w_480, List.forall_mem_cons.mpr ⟨w_117, List.forall_mem_cons.mpr ⟨w_478, List.forall_mem_cons.mpr ⟨w_55, fun _ h => absurd h List.not_mem_nil⟩⟩⟩⟩⟩, w_501, by decide +kernel, by decide +kernel⟩
theorem w_365 : (.methodLink "EndlessTug$Drinker" 13 yX2_isSunday : Cond) ∈ ws0 := ws0_mem (List.mem_append_right _ (List.mem_append_right _ (List.mem_append_left _ (List.mem_of_getElem? (i := 73) rfl)))) rfl
theorem kX1_13 : LkV "EndlessTug$Drinker" 13 mX2_isSunday 0 := ⟨List.forall_mem_cons.mpr ⟨w_365, List.forall_mem_cons.mpr ⟨w_343, List.forall_mem_cons.mpr ⟨w_344, List.forall_mem_cons.mpr ⟨w_54, fun _ h => absurd h List.not_mem_nil⟩⟩⟩⟩, w_345, ⟨by decide +kernel, by decide +kernel, by decide +kernel⟩⟩
theorem w_366 : (.methodLink "EndlessTug$Drinker" 19 yX3_pull : Cond) ∈ ws0 := ws0_mem (List.mem_append_right _ (List.mem_append_right _ (List.mem_append_left _ (List.mem_of_getElem? (i := 74) rfl)))) rfl
theorem kX1_19 : LkSU "EndlessTug$Drinker" 19 mX3_pull 2 := ⟨List.forall_mem_cons.mpr ⟨w_366, List.forall_mem_cons.mpr ⟨w_361, List.forall_mem_cons.mpr ⟨w_117, List.forall_mem_cons.mpr ⟨w_359, List.forall_mem_cons.mpr ⟨w_55, fun _ h => absurd h List.not_mem_nil⟩⟩⟩⟩⟩, w_389, by decide +kernel, by decide +kernel⟩
theorem w_427 : (.methodLink "EndlessTug$Drinker" 23 yX3_tire : Cond) ∈ ws0 := ws0_mem (List.mem_append_right _ (List.mem_append_right _ (List.mem_append_left _ (List.mem_of_getElem? (i := 135) rfl)))) rfl
theorem kX1_23 : LkSU "EndlessTug$Drinker" 23 mX3_tire 1 := ⟨List.forall_mem_cons.mpr ⟨w_427, List.forall_mem_cons.mpr ⟨w_423, List.forall_mem_cons.mpr ⟨w_117, List.forall_mem_cons.mpr ⟨w_421, List.forall_mem_cons.mpr ⟨w_55, fun _ h => absurd h List.not_mem_nil⟩⟩⟩⟩⟩, w_443, by decide +kernel, by decide +kernel⟩
theorem w_451 : (.methodLink "EndlessTug$Drinker" 27 yX3_letsGo : Cond) ∈ ws0 := ws0_mem (List.mem_append_right _ (List.mem_append_right _ (List.mem_append_left _ (List.mem_of_getElem? (i := 159) rfl)))) rfl
theorem kX1_27 : LkSU "EndlessTug$Drinker" 27 mX3_letsGo 2 := ⟨List.forall_mem_cons.mpr ⟨w_451, List.forall_mem_cons.mpr ⟨w_447, List.forall_mem_cons.mpr ⟨w_117, List.forall_mem_cons.mpr ⟨w_445, List.forall_mem_cons.mpr ⟨w_55, fun _ h => absurd h List.not_mem_nil⟩⟩⟩⟩⟩, w_464, by decide +kernel, by decide +kernel⟩
theorem w_87 : (.methodLink "EndlessTug$Green" 3 Lib.objectInit : Cond) ∈ ws0 := ws0_mem (List.mem_append_right _ (List.mem_append_left _ (List.mem_of_getElem? (i := 35) rfl))) rfl
theorem kX2_3 : ∀ w ∈ ([.methodLink "EndlessTug$Green" 3 Lib.objectInit, .instanceMethod Lib.objectInit, .code Lib.objectInit ⟨#[0xb1]⟩ 1 none] : List Cond), w ∈ ws0 := List.forall_mem_cons.mpr ⟨w_87, List.forall_mem_cons.mpr ⟨w_80, List.forall_mem_cons.mpr ⟨w_81, fun _ h => absurd h List.not_mem_nil⟩⟩⟩
theorem w_93 : (.methodLink "EndlessTug$Green" 30 yX3_init : Cond) ∈ ws0 := ws0_mem (List.mem_append_right _ (List.mem_append_left _ (List.mem_of_getElem? (i := 41) rfl))) rfl
theorem kX2_30 : LkI "EndlessTug$Green" 30 mX3_init 1 := ⟨List.forall_mem_cons.mpr ⟨w_93, List.forall_mem_cons.mpr ⟨w_94, List.forall_mem_cons.mpr ⟨w_55, fun _ h => absurd h List.not_mem_nil⟩⟩⟩, w_95, rfl, rfl, ⟨by decide +kernel, by decide +kernel, by decide +kernel⟩⟩
theorem w_104 : (.methodLink "EndlessTug$Green" 35 yX7_init : Cond) ∈ ws0 := ws0_mem (List.mem_append_right _ (List.mem_append_left _ (List.mem_of_getElem? (i := 52) rfl))) rfl
theorem w_105 : (.instanceMethod yX7_init : Cond) ∈ ws0 := ws0_mem (List.mem_append_right _ (List.mem_append_left _ (List.mem_of_getElem? (i := 53) rfl))) rfl
theorem w_106 : (cdW mX7_init : Cond) ∈ ws0 := ws0_mem (List.mem_append_right _ (List.mem_append_left _ (List.mem_of_getElem? (i := 54) rfl))) rfl
theorem kX2_35 : LkI "EndlessTug$Green" 35 mX7_init 1 := ⟨List.forall_mem_cons.mpr ⟨w_104, List.forall_mem_cons.mpr ⟨w_105, List.forall_mem_cons.mpr ⟨w_56, fun _ h => absurd h List.not_mem_nil⟩⟩⟩, w_106, rfl, rfl, ⟨by decide +kernel, by decide +kernel, by decide +kernel⟩⟩
theorem w_112 : (.methodLink "EndlessTug$Green" 38 yX1_init : Cond) ∈ ws0 := ws0_mem (List.mem_append_right _ (List.mem_append_left _ (List.mem_of_getElem? (i := 60) rfl))) rfl
theorem w_113 : (.instanceMethod yX1_init : Cond) ∈ ws0 := ws0_mem (List.mem_append_right _ (List.mem_append_left _ (List.mem_of_getElem? (i := 61) rfl))) rfl
theorem w_114 : (cdW mX1_init : Cond) ∈ ws0 := ws0_mem (List.mem_append_right _ (List.mem_append_left _ (List.mem_of_getElem? (i := 62) rfl))) rfl
theorem kX2_38 : LkI "EndlessTug$Green" 38 mX1_init 1 := ⟨List.forall_mem_cons.mpr ⟨w_112, List.forall_mem_cons.mpr ⟨w_113, List.forall_mem_cons.mpr ⟨w_57, fun _ h => absurd h List.not_mem_nil⟩⟩⟩, w_114, rfl, rfl, ⟨by decide +kernel, by decide +kernel, by decide +kernel⟩⟩
theorem w_120 : (.methodLink "EndlessTug$Green" 41 yX10_init : Cond) ∈ ws0 := ws0_mem (List.mem_append_right _ (List.mem_append_left _ (List.mem_of_getElem? (i := 68) rfl))) rfl
theorem w_121 : (.instanceMethod yX10_init : Cond) ∈ ws0 := ws0_mem (List.mem_append_right _ (List.mem_append_left _ (List.mem_of_getElem? (i := 69) rfl))) rfl
theorem w_122 : (cdW mX10_init : Cond) ∈ ws0 := ws0_mem (List.mem_append_right _ (List.mem_append_left _ (List.mem_of_getElem? (i := 70) rfl))) rfl
theorem kX2_41 : LkI "EndlessTug$Green" 41 mX10_init 1 := ⟨List.forall_mem_cons.mpr ⟨w_120, List.forall_mem_cons.mpr ⟨w_121, List.forall_mem_cons.mpr ⟨w_58, fun _ h => absurd h List.not_mem_nil⟩⟩⟩, w_122, rfl, rfl, ⟨by decide +kernel, by decide +kernel, by decide +kernel⟩⟩
theorem w_128 : (.methodLink "EndlessTug$Green" 44 yX5_init : Cond) ∈ ws0 := ws0_mem (List.mem_append_right _ (List.mem_append_left _ (List.mem_of_getElem? (i := 76) rfl))) rfl
theorem w_129 : (.instanceMethod yX5_init : Cond) ∈ ws0 := ws0_mem (List.mem_append_right _ (List.mem_append_left _ (List.mem_of_getElem? (i := 77) rfl))) rfl
theorem w_130 : (cdW mX5_init : Cond) ∈ ws0 := ws0_mem (List.mem_append_right _ (List.mem_append_left _ (List.mem_of_getElem? (i := 78) rfl))) rfl
theorem kX2_44 : LkI "EndlessTug$Green" 44 mX5_init 1 := ⟨List.forall_mem_cons.mpr ⟨w_128, List.forall_mem_cons.mpr ⟨w_129, List.forall_mem_cons.mpr ⟨w_59, fun _ h => absurd h List.not_mem_nil⟩⟩⟩, w_130, rfl, rfl, ⟨by decide +kernel, by decide +kernel, by decide +kernel⟩⟩
theorem w_136 : (.methodLink "EndlessTug$Green" 47 yX8_init : Cond) ∈ ws0 := ws0_mem (List.mem_append_right _ (List.mem_append_left _ (List.mem_of_getElem? (i := 84) rfl))) rfl
theorem w_137 : (.instanceMethod yX8_init : Cond) ∈ ws0 := ws0_mem (List.mem_append_right _ (List.mem_append_left _ (List.mem_of_getElem? (i := 85) rfl))) rfl
theorem w_138 : (cdW mX8_init : Cond) ∈ ws0 := ws0_mem (List.mem_append_right _ (List.mem_append_left _ (List.mem_of_getElem? (i := 86) rfl))) rfl
theorem kX2_47 : LkI "EndlessTug$Green" 47 mX8_init 1 := ⟨List.forall_mem_cons.mpr ⟨w_136, List.forall_mem_cons.mpr ⟨w_137, List.forall_mem_cons.mpr ⟨w_60, fun _ h => absurd h List.not_mem_nil⟩⟩⟩, w_138, rfl, rfl, ⟨by decide +kernel, by decide +kernel, by decide +kernel⟩⟩
theorem w_143 : (.methodLink "EndlessTug$Green" 48 yX4_init : Cond) ∈ ws0 := ws0_mem (List.mem_append_right _ (List.mem_append_left _ (List.mem_of_getElem? (i := 91) rfl))) rfl
theorem w_144 : (.instanceMethod yX4_init : Cond) ∈ ws0 := ws0_mem (List.mem_append_right _ (List.mem_append_left _ (List.mem_of_getElem? (i := 92) rfl))) rfl
theorem w_61 : (.initialized "EndlessTug$Person" : Cond) ∈ ws0 := ws0_mem (List.mem_append_right _ (List.mem_append_left _ (List.mem_of_getElem? (i := 9) rfl))) rfl
theorem w_145 : (cdW mX4_init : Cond) ∈ ws0 := ws0_mem (List.mem_append_right _ (List.mem_append_left _ (List.mem_of_getElem? (i := 93) rfl))) rfl
theorem kX2_48 : LkI "EndlessTug$Green" 48 mX4_init 1 := ⟨List.forall_mem_cons.mpr ⟨w_143, List.forall_mem_cons.mpr ⟨w_144, List.forall_mem_cons.mpr ⟨w_61, fun _ h => absurd h List.not_mem_nil⟩⟩⟩, w_145, rfl, rfl, ⟨by decide +kernel, by decide +kernel, by decide +kernel⟩⟩
theorem w_563 : (.methodLink "EndlessTug$Green" 60 yX4_become : Cond) ∈ ws0 := ws0_mem (List.mem_append_right _ (List.mem_append_right _ (List.mem_append_right _ (List.mem_append_left _ (List.mem_of_getElem? (i := 31) rfl))))) rfl
theorem w_564 : (.instanceMethod yX4_become : Cond) ∈ ws0 := ws0_mem (List.mem_append_right _ (List.mem_append_right _ (List.mem_append_right _ (List.mem_append_left _ (List.mem_of_getElem? (i := 32) rfl))))) rfl
theorem w_565 : (.selects "EndlessTug$Person" yX4_become yX4_become : Cond) ∈ ws0 := ws0_mem (List.mem_append_right _ (List.mem_append_right _ (List.mem_append_right _ (List.mem_append_left _ (List.mem_of_getElem? (i := 33) rfl))))) rfl
theorem w_566 : (cdW mX4_become : Cond) ∈ ws0 := ws0_mem (List.mem_append_right _ (List.mem_append_right _ (List.mem_append_right _ (List.mem_append_left _ (List.mem_of_getElem? (i := 34) rfl))))) rfl
theorem kX2_60 : LkV "EndlessTug$Green" 60 mX4_become 1 := ⟨List.forall_mem_cons.mpr ⟨w_563, List.forall_mem_cons.mpr ⟨w_564, List.forall_mem_cons.mpr ⟨w_565, List.forall_mem_cons.mpr ⟨w_61, fun _ h => absurd h List.not_mem_nil⟩⟩⟩⟩, w_566, ⟨by decide +kernel, by decide +kernel, by decide +kernel⟩⟩
theorem w_409 : (.methodLink "EndlessTug$Green" 64 yX2_isFull : Cond) ∈ ws0 := ws0_mem (List.mem_append_right _ (List.mem_append_right _ (List.mem_append_left _ (List.mem_of_getElem? (i := 117) rfl)))) rfl
theorem kX2_64 : LkV "EndlessTug$Green" 64 mX2_isFull 0 := ⟨List.forall_mem_cons.mpr ⟨w_409, List.forall_mem_cons.mpr ⟨w_401, List.forall_mem_cons.mpr ⟨w_402, List.forall_mem_cons.mpr ⟨w_54, fun _ h => absurd h List.not_mem_nil⟩⟩⟩⟩, w_403, ⟨by decide +kernel, by decide +kernel, by decide +kernel⟩⟩
theorem kX2_68 : LkSN "EndlessTug$Green" 68 mX11_isKind 1 := ⟨List.forall_mem_cons.mpr ⟨w_395, List.forall_mem_cons.mpr ⟨w_53, fun _ h => absurd h List.not_mem_nil⟩⟩, w_396, ⟨by decide +kernel, by decide +kernel, by decide +kernel⟩, by decide +kernel⟩
theorem w_341 : (.methodLink "EndlessTug$Green" 88 yX2_weekOfYear : Cond) ∈ ws0 := ws0_mem (List.mem_append_right _ (List.mem_append_right _ (List.mem_append_left _ (List.mem_of_getElem? (i := 49) rfl)))) rfl
theorem kX2_88 : LkV "EndlessTug$Green" 88 mX2_weekOfYear 0 := ⟨List.forall_mem_cons.mpr ⟨w_341, List.forall_mem_cons.mpr ⟨w_334, List.forall_mem_cons.mpr ⟨w_335, List.forall_mem_cons.mpr ⟨w_54, fun _ h => absurd h List.not_mem_nil⟩⟩⟩⟩, w_336, ⟨by decide +kernel, by decide +kernel, by decide +kernel⟩⟩
theorem w_358 : (.methodLink "EndlessTug$Green" 92 yX3_pull : Cond) ∈ ws0 := ws0_mem (List.mem_append_right _ (List.mem_append_right _ (List.mem_append_left _ (List.mem_of_getElem? (i := 66) rfl)))) rfl
theorem kX2_92 : LkV "EndlessTug$Green" 92 mX3_pull 2 := ⟨List.forall_mem_cons.mpr ⟨w_358, List.forall_mem_cons.mpr ⟨w_359, List.forall_mem_cons.mpr ⟨w_360, List.forall_mem_cons.mpr ⟨w_55, fun _ h => absurd h List.not_mem_nil⟩⟩⟩⟩, w_389, ⟨by decide +kernel, by decide +kernel, by decide +kernel⟩⟩
theorem kX2_92_X1 : LkO "EndlessTug$Green" 92 "EndlessTug$Drinker" mX3_pull mX1_pull 2 := ⟨List.forall_mem_cons.mpr ⟨w_358, List.forall_mem_cons.mpr ⟨w_361, List.forall_mem_cons.mpr ⟨w_359, List.forall_mem_cons.mpr ⟨w_362, List.forall_mem_cons.mpr ⟨w_363, List.forall_mem_cons.mpr ⟨w_57, fun _ h => absurd h List.not_mem_nil⟩⟩⟩⟩⟩⟩, w_364, w_389, ⟨by decide +kernel, by decide +kernel, by decide +kernel⟩⟩
theorem kX2_92_X5 : LkO "EndlessTug$Green" 92 "EndlessTug$Preacher" mX3_pull mX5_pull 2 := ⟨List.forall_mem_cons.mpr ⟨w_358, List.forall_mem_cons.mpr ⟨w_361, List.forall_mem_cons.mpr ⟨w_359, List.forall_mem_cons.mpr ⟨w_367, List.forall_mem_cons.mpr ⟨w_368, List.forall_mem_cons.mpr ⟨w_59, fun _ h => absurd h List.not_mem_nil⟩⟩⟩⟩⟩⟩, w_369, w_389, ⟨by decide +kernel, by decide +kernel, by decide +kernel⟩⟩
theorem kX2_92_X7 : LkO "EndlessTug$Green" 92 "EndlessTug$Son" mX3_pull mX7_pull 2 := ⟨List.forall_mem_cons.mpr ⟨w_358, List.forall_mem_cons.mpr ⟨w_361, List.forall_mem_cons.mpr ⟨w_359, List.forall_mem_cons.mpr ⟨w_375, List.forall_mem_cons.mpr ⟨w_372, List.forall_mem_cons.mpr ⟨w_56, fun _ h => absurd h List.not_mem_nil⟩⟩⟩⟩⟩⟩, w_373, w_389, ⟨by decide +kernel, by decide +kernel, by decide +kernel⟩⟩
theorem kX2_92_X8 : LkO "EndlessTug$Green" 92 "EndlessTug$Stranger" mX3_pull mX8_pull 2 := ⟨List.forall_mem_cons.mpr ⟨w_358, List.forall_mem_cons.mpr ⟨w_361, List.forall_mem_cons.mpr ⟨w_359, List.forall_mem_cons.mpr ⟨w_376, List.forall_mem_cons.mpr ⟨w_377, List.forall_mem_cons.mpr ⟨w_60, fun _ h => absurd h List.not_mem_nil⟩⟩⟩⟩⟩⟩, w_378, w_389, ⟨by decide +kernel, by decide +kernel, by decide +kernel⟩⟩
theorem kX2_92_X10 : LkO "EndlessTug$Green" 92 "EndlessTug$Woman" mX3_pull mX10_pull 2 := ⟨List.forall_mem_cons.mpr ⟨w_358, List.forall_mem_cons.mpr ⟨w_361, List.forall_mem_cons.mpr ⟨w_359, List.forall_mem_cons.mpr ⟨w_384, List.forall_mem_cons.mpr ⟨w_385, List.forall_mem_cons.mpr ⟨w_58, fun _ h => absurd h List.not_mem_nil⟩⟩⟩⟩⟩⟩, w_386, w_389, ⟨by decide +kernel, by decide +kernel, by decide +kernel⟩⟩
theorem w_511 : (.methodLink "EndlessTug$Green" 96 yX2_has : Cond) ∈ ws0 := ws0_mem (List.mem_append_right _ (List.mem_append_right _ (List.mem_append_left _ (List.mem_of_getElem? (i := 219) rfl)))) rfl
theorem kX2_96 : LkV "EndlessTug$Green" 96 mX2_has 1 := ⟨List.forall_mem_cons.mpr ⟨w_511, List.forall_mem_cons.mpr ⟨w_416, List.forall_mem_cons.mpr ⟨w_417, List.forall_mem_cons.mpr ⟨w_54, fun _ h => absurd h List.not_mem_nil⟩⟩⟩⟩, w_418, ⟨by decide +kernel, by decide +kernel, by decide +kernel⟩⟩
theorem w_517 : (.methodLink "EndlessTug$Green" 99 yX2_canSwap : Cond) ∈ ws0 := ws0_mem (List.mem_append_right _ (List.mem_append_right _ (List.mem_append_left _ (List.mem_of_getElem? (i := 225) rfl)))) rfl
theorem kX2_99 : LkV "EndlessTug$Green" 99 mX2_canSwap 2 := ⟨List.forall_mem_cons.mpr ⟨w_517, List.forall_mem_cons.mpr ⟨w_508, List.forall_mem_cons.mpr ⟨w_509, List.forall_mem_cons.mpr ⟨w_54, fun _ h => absurd h List.not_mem_nil⟩⟩⟩⟩, w_510, ⟨by decide +kernel, by decide +kernel, by decide +kernel⟩⟩
theorem w_527 : (.methodLink "EndlessTug$Green" 103 yX2_goDay : Cond) ∈ ws0 := ws0_mem (List.mem_append_right _ (List.mem_append_right _ (List.mem_append_left _ (List.mem_of_getElem? (i := 235) rfl)))) rfl
theorem kX2_103 : LkV "EndlessTug$Green" 103 mX2_goDay 0 := ⟨List.forall_mem_cons.mpr ⟨w_527, List.forall_mem_cons.mpr ⟨w_528, List.forall_mem_cons.mpr ⟨w_529, List.forall_mem_cons.mpr ⟨w_54, fun _ h => absurd h List.not_mem_nil⟩⟩⟩⟩, w_530, ⟨by decide +kernel, by decide +kernel, by decide +kernel⟩⟩
theorem w_531 : (.methodLink "EndlessTug$Green" 106 yX2_leadOfChapel : Cond) ∈ ws0 := ws0_mem (List.mem_append_right _ (List.mem_append_right _ (List.mem_append_left _ (List.mem_of_getElem? (i := 239) rfl)))) rfl
theorem w_533 : (.instanceMethod yX2_leadOfChapel : Cond) ∈ ws0 := ws0_mem (List.mem_append_right _ (List.mem_append_right _ (List.mem_append_right _ (List.mem_append_left _ (List.mem_of_getElem? (i := 1) rfl))))) rfl
theorem w_1 : (.selects "EndlessTug$Green" yX2_leadOfChapel yX2_leadOfChapel : Cond) ∈ ws0 := ws0_mem (List.mem_append_left _ (List.mem_of_getElem? (i := 1) (by decide +kernel))) rfl
theorem w_534 : (cdW mX2_leadOfChapel : Cond) ∈ ws0 := ws0_mem (List.mem_append_right _ (List.mem_append_right _ (List.mem_append_right _ (List.mem_append_left _ (List.mem_of_getElem? (i := 2) rfl))))) rfl
theorem kX2_106 : LkV "EndlessTug$Green" 106 mX2_leadOfChapel 0 := ⟨List.forall_mem_cons.mpr ⟨w_531, List.forall_mem_cons.mpr ⟨w_533, List.forall_mem_cons.mpr ⟨w_1, List.forall_mem_cons.mpr ⟨w_54, fun _ h => absurd h List.not_mem_nil⟩⟩⟩⟩, w_534, ⟨by decide +kernel, by decide +kernel, by decide +kernel⟩⟩
theorem w_535 : (.methodLink "EndlessTug$Green" 109 yX2_moveKnot : Cond) ∈ ws0 := ws0_mem (List.mem_append_right _ (List.mem_append_right _ (List.mem_append_right _ (List.mem_append_left _ (List.mem_of_getElem? (i := 3) rfl))))) rfl
theorem w_537 : (.instanceMethod yX2_moveKnot : Cond) ∈ ws0 := ws0_mem (List.mem_append_right _ (List.mem_append_right _ (List.mem_append_right _ (List.mem_append_left _ (List.mem_of_getElem? (i := 5) rfl))))) rfl
theorem w_2 : (.selects "EndlessTug$Green" yX2_moveKnot yX2_moveKnot : Cond) ∈ ws0 := ws0_mem (List.mem_append_left _ (List.mem_of_getElem? (i := 2) (by decide +kernel))) rfl
theorem w_538 : (cdW mX2_moveKnot : Cond) ∈ ws0 := ws0_mem (List.mem_append_right _ (List.mem_append_right _ (List.mem_append_right _ (List.mem_append_left _ (List.mem_of_getElem? (i := 6) rfl))))) rfl
theorem kX2_109 : LkV "EndlessTug$Green" 109 mX2_moveKnot 1 := ⟨List.forall_mem_cons.mpr ⟨w_535, List.forall_mem_cons.mpr ⟨w_537, List.forall_mem_cons.mpr ⟨w_2, List.forall_mem_cons.mpr ⟨w_54, fun _ h => absurd h List.not_mem_nil⟩⟩⟩⟩, w_538, ⟨by decide +kernel, by decide +kernel, by decide +kernel⟩⟩
theorem w_545 : (.methodLink "EndlessTug$Green" 112 yX4_spendDay : Cond) ∈ ws0 := ws0_mem (List.mem_append_right _ (List.mem_append_right _ (List.mem_append_right _ (List.mem_append_left _ (List.mem_of_getElem? (i := 13) rfl))))) rfl
theorem w_546 : (.instanceMethod yX4_spendDay : Cond) ∈ ws0 := ws0_mem (List.mem_append_right _ (List.mem_append_right _ (List.mem_append_right _ (List.mem_append_left _ (List.mem_of_getElem? (i := 14) rfl))))) rfl
theorem w_547 : (.selects "EndlessTug$Person" yX4_spendDay yX4_spendDay : Cond) ∈ ws0 := ws0_mem (List.mem_append_right _ (List.mem_append_right _ (List.mem_append_right _ (List.mem_append_left _ (List.mem_of_getElem? (i := 15) rfl))))) rfl
theorem w_548 : (cdW mX4_spendDay : Cond) ∈ ws0 := ws0_mem (List.mem_append_right _ (List.mem_append_right _ (List.mem_append_right _ (List.mem_append_left _ (List.mem_of_getElem? (i := 16) rfl))))) rfl
theorem kX2_112 : LkV "EndlessTug$Green" 112 mX4_spendDay 1 := ⟨List.forall_mem_cons.mpr ⟨w_545, List.forall_mem_cons.mpr ⟨w_546, List.forall_mem_cons.mpr ⟨w_547, List.forall_mem_cons.mpr ⟨w_61, fun _ h => absurd h List.not_mem_nil⟩⟩⟩⟩, w_548, ⟨by decide +kernel, by decide +kernel, by decide +kernel⟩⟩
theorem w_551 : (.methodLink "EndlessTug$Green" 116 yX2_callOut : Cond) ∈ ws0 := ws0_mem (List.mem_append_right _ (List.mem_append_right _ (List.mem_append_right _ (List.mem_append_left _ (List.mem_of_getElem? (i := 19) rfl))))) rfl
theorem w_553 : (.instanceMethod yX2_callOut : Cond) ∈ ws0 := ws0_mem (List.mem_append_right _ (List.mem_append_right _ (List.mem_append_right _ (List.mem_append_left _ (List.mem_of_getElem? (i := 21) rfl))))) rfl
theorem w_3 : (.selects "EndlessTug$Green" yX2_callOut yX2_callOut : Cond) ∈ ws0 := ws0_mem (List.mem_append_left _ (List.mem_of_getElem? (i := 3) (by decide +kernel))) rfl
theorem w_554 : (cdW mX2_callOut : Cond) ∈ ws0 := ws0_mem (List.mem_append_right _ (List.mem_append_right _ (List.mem_append_right _ (List.mem_append_left _ (List.mem_of_getElem? (i := 22) rfl))))) rfl
theorem kX2_116 : LkV "EndlessTug$Green" 116 mX2_callOut 1 := ⟨List.forall_mem_cons.mpr ⟨w_551, List.forall_mem_cons.mpr ⟨w_553, List.forall_mem_cons.mpr ⟨w_3, List.forall_mem_cons.mpr ⟨w_54, fun _ h => absurd h List.not_mem_nil⟩⟩⟩⟩, w_554, ⟨by decide +kernel, by decide +kernel, by decide +kernel⟩⟩
theorem w_539 : (.methodLink "EndlessTug$Green" 119 yJ9_min_7cf53 : Cond) ∈ ws0 := ws0_mem (List.mem_append_right _ (List.mem_append_right _ (List.mem_append_right _ (List.mem_append_left _ (List.mem_of_getElem? (i := 7) rfl))))) rfl
theorem w_540 : (.static yJ9_min_7cf53 : Cond) ∈ ws0 := ws0_mem (List.mem_append_right _ (List.mem_append_right _ (List.mem_append_right _ (List.mem_append_left _ (List.mem_of_getElem? (i := 8) rfl))))) rfl
theorem w_541 : (cdW mJ9_min_7cf53 : Cond) ∈ ws0 := ws0_mem (List.mem_append_right _ (List.mem_append_right _ (List.mem_append_right _ (List.mem_append_left _ (List.mem_of_getElem? (i := 9) rfl))))) rfl
theorem kX2_119 : LkS "EndlessTug$Green" 119 mJ9_min_7cf53 2 := ⟨List.forall_mem_cons.mpr ⟨w_539, List.forall_mem_cons.mpr ⟨w_540, List.forall_mem_cons.mpr ⟨w_66, fun _ h => absurd h List.not_mem_nil⟩⟩⟩, w_541, ⟨by decide +kernel, by decide +kernel, by decide +kernel⟩⟩
theorem w_542 : (.methodLink "EndlessTug$Green" 125 yJ9_max_7cf53 : Cond) ∈ ws0 := ws0_mem (List.mem_append_right _ (List.mem_append_right _ (List.mem_append_right _ (List.mem_append_left _ (List.mem_of_getElem? (i := 10) rfl))))) rfl
theorem w_543 : (.static yJ9_max_7cf53 : Cond) ∈ ws0 := ws0_mem (List.mem_append_right _ (List.mem_append_right _ (List.mem_append_right _ (List.mem_append_left _ (List.mem_of_getElem? (i := 11) rfl))))) rfl
theorem w_544 : (cdW mJ9_max_7cf53 : Cond) ∈ ws0 := ws0_mem (List.mem_append_right _ (List.mem_append_right _ (List.mem_append_right _ (List.mem_append_left _ (List.mem_of_getElem? (i := 12) rfl))))) rfl
theorem kX2_125 : LkS "EndlessTug$Green" 125 mJ9_max_7cf53 2 := ⟨List.forall_mem_cons.mpr ⟨w_542, List.forall_mem_cons.mpr ⟨w_543, List.forall_mem_cons.mpr ⟨w_66, fun _ h => absurd h List.not_mem_nil⟩⟩⟩, w_544, ⟨by decide +kernel, by decide +kernel, by decide +kernel⟩⟩
theorem w_96 : (.methodLink "EndlessTug$Man" 3 Lib.objectInit : Cond) ∈ ws0 := ws0_mem (List.mem_append_right _ (List.mem_append_left _ (List.mem_of_getElem? (i := 44) rfl))) rfl
theorem kX3_3 : ∀ w ∈ ([.methodLink "EndlessTug$Man" 3 Lib.objectInit, .instanceMethod Lib.objectInit, .code Lib.objectInit ⟨#[0xb1]⟩ 1 none] : List Cond), w ∈ ws0 := List.forall_mem_cons.mpr ⟨w_96, List.forall_mem_cons.mpr ⟨w_80, List.forall_mem_cons.mpr ⟨w_81, fun _ h => absurd h List.not_mem_nil⟩⟩⟩
theorem w_146 : (.methodLink "EndlessTug$Person" 3 Lib.objectInit : Cond) ∈ ws0 := ws0_mem (List.mem_append_right _ (List.mem_append_left _ (List.mem_of_getElem? (i := 94) rfl))) rfl
theorem kX4_3 : ∀ w ∈ ([.methodLink "EndlessTug$Person" 3 Lib.objectInit, .instanceMethod Lib.objectInit, .code Lib.objectInit ⟨#[0xb1]⟩ 1 none] : List Cond), w ∈ ws0 := List.forall_mem_cons.mpr ⟨w_146, List.forall_mem_cons.mpr ⟨w_80, List.forall_mem_cons.mpr ⟨w_81, fun _ h => absurd h List.not_mem_nil⟩⟩⟩
theorem w_549 : (.methodLink "EndlessTug$Person" 28 yX3_tire : Cond) ∈ ws0 := ws0_mem (List.mem_append_right _ (List.mem_append_right _ (List.mem_append_right _ (List.mem_append_left _ (List.mem_of_getElem? (i := 17) rfl))))) rfl
theorem kX4_28 : LkV "EndlessTug$Person" 28 mX3_tire 1 := ⟨List.forall_mem_cons.mpr ⟨w_549, List.forall_mem_cons.mpr ⟨w_421, List.forall_mem_cons.mpr ⟨w_422, List.forall_mem_cons.mpr ⟨w_55, fun _ h => absurd h List.not_mem_nil⟩⟩⟩⟩, w_443, ⟨by decide +kernel, by decide +kernel, by decide +kernel⟩⟩
theorem kX4_28_X1 : LkO "EndlessTug$Person" 28 "EndlessTug$Drinker" mX3_tire mX1_tire 1 := ⟨List.forall_mem_cons.mpr ⟨w_549, List.forall_mem_cons.mpr ⟨w_423, List.forall_mem_cons.mpr ⟨w_421, List.forall_mem_cons.mpr ⟨w_424, List.forall_mem_cons.mpr ⟨w_425, List.forall_mem_cons.mpr ⟨w_57, fun _ h => absurd h List.not_mem_nil⟩⟩⟩⟩⟩⟩, w_426, w_443, ⟨by decide +kernel, by decide +kernel, by decide +kernel⟩⟩
theorem kX4_28_X5 : LkO "EndlessTug$Person" 28 "EndlessTug$Preacher" mX3_tire mX5_tire 1 := ⟨List.forall_mem_cons.mpr ⟨w_549, List.forall_mem_cons.mpr ⟨w_423, List.forall_mem_cons.mpr ⟨w_421, List.forall_mem_cons.mpr ⟨w_428, List.forall_mem_cons.mpr ⟨w_429, List.forall_mem_cons.mpr ⟨w_59, fun _ h => absurd h List.not_mem_nil⟩⟩⟩⟩⟩⟩, w_430, w_443, ⟨by decide +kernel, by decide +kernel, by decide +kernel⟩⟩
theorem kX4_28_X7 : LkO "EndlessTug$Person" 28 "EndlessTug$Son" mX3_tire mX7_tire 1 := ⟨List.forall_mem_cons.mpr ⟨w_549, List.forall_mem_cons.mpr ⟨w_423, List.forall_mem_cons.mpr ⟨w_421, List.forall_mem_cons.mpr ⟨w_435, List.forall_mem_cons.mpr ⟨w_432, List.forall_mem_cons.mpr ⟨w_56, fun _ h => absurd h List.not_mem_nil⟩⟩⟩⟩⟩⟩, w_433, w_443, ⟨by decide +kernel, by decide +kernel, by decide +kernel⟩⟩
theorem kX4_28_X8 : LkO "EndlessTug$Person" 28 "EndlessTug$Stranger" mX3_tire mX8_tire 1 := ⟨List.forall_mem_cons.mpr ⟨w_549, List.forall_mem_cons.mpr ⟨w_423, List.forall_mem_cons.mpr ⟨w_421, List.forall_mem_cons.mpr ⟨w_436, List.forall_mem_cons.mpr ⟨w_437, List.forall_mem_cons.mpr ⟨w_60, fun _ h => absurd h List.not_mem_nil⟩⟩⟩⟩⟩⟩, w_438, w_443, ⟨by decide +kernel, by decide +kernel, by decide +kernel⟩⟩
theorem kX4_28_X10 : LkO "EndlessTug$Person" 28 "EndlessTug$Woman" mX3_tire mX10_tire 1 := ⟨List.forall_mem_cons.mpr ⟨w_549, List.forall_mem_cons.mpr ⟨w_423, List.forall_mem_cons.mpr ⟨w_421, List.forall_mem_cons.mpr ⟨w_440, List.forall_mem_cons.mpr ⟨w_441, List.forall_mem_cons.mpr ⟨w_58, fun _ h => absurd h List.not_mem_nil⟩⟩⟩⟩⟩⟩, w_442, w_443, ⟨by decide +kernel, by decide +kernel, by decide +kernel⟩⟩
theorem w_550 : (.methodLink "EndlessTug$Person" 34 yX3_letsGo : Cond) ∈ ws0 := ws0_mem (List.mem_append_right _ (List.mem_append_right _ (List.mem_append_right _ (List.mem_append_left _ (List.mem_of_getElem? (i := 18) rfl))))) rfl
theorem kX4_34 : LkV "EndlessTug$Person" 34 mX3_letsGo 2 := ⟨List.forall_mem_cons.mpr ⟨w_550, List.forall_mem_cons.mpr ⟨w_445, List.forall_mem_cons.mpr ⟨w_446, List.forall_mem_cons.mpr ⟨w_55, fun _ h => absurd h List.not_mem_nil⟩⟩⟩⟩, w_464, ⟨by decide +kernel, by decide +kernel, by decide +kernel⟩⟩
theorem kX4_34_X1 : LkO "EndlessTug$Person" 34 "EndlessTug$Drinker" mX3_letsGo mX1_letsGo 2 := ⟨List.forall_mem_cons.mpr ⟨w_550, List.forall_mem_cons.mpr ⟨w_447, List.forall_mem_cons.mpr ⟨w_445, List.forall_mem_cons.mpr ⟨w_448, List.forall_mem_cons.mpr ⟨w_449, List.forall_mem_cons.mpr ⟨w_57, fun _ h => absurd h List.not_mem_nil⟩⟩⟩⟩⟩⟩, w_450, w_464, ⟨by decide +kernel, by decide +kernel, by decide +kernel⟩⟩
theorem kX4_34_X5 : LkO "EndlessTug$Person" 34 "EndlessTug$Preacher" mX3_letsGo mX7_letsGo 2 := ⟨List.forall_mem_cons.mpr ⟨w_550, List.forall_mem_cons.mpr ⟨w_447, List.forall_mem_cons.mpr ⟨w_445, List.forall_mem_cons.mpr ⟨w_452, List.forall_mem_cons.mpr ⟨w_453, List.forall_mem_cons.mpr ⟨w_56, fun _ h => absurd h List.not_mem_nil⟩⟩⟩⟩⟩⟩, w_454, w_464, ⟨by decide +kernel, by decide +kernel, by decide +kernel⟩⟩
theorem kX4_34_X7 : LkO "EndlessTug$Person" 34 "EndlessTug$Son" mX3_letsGo mX7_letsGo 2 := ⟨List.forall_mem_cons.mpr ⟨w_550, List.forall_mem_cons.mpr ⟨w_447, List.forall_mem_cons.mpr ⟨w_445, List.forall_mem_cons.mpr ⟨w_455, List.forall_mem_cons.mpr ⟨w_453, List.forall_mem_cons.mpr ⟨w_56, fun _ h => absurd h List.not_mem_nil⟩⟩⟩⟩⟩⟩, w_454, w_464, ⟨by decide +kernel, by decide +kernel, by decide +kernel⟩⟩
theorem kX4_34_X8 : LkO "EndlessTug$Person" 34 "EndlessTug$Stranger" mX3_letsGo mX8_letsGo 2 := ⟨List.forall_mem_cons.mpr ⟨w_550, List.forall_mem_cons.mpr ⟨w_447, List.forall_mem_cons.mpr ⟨w_445, List.forall_mem_cons.mpr ⟨w_456, List.forall_mem_cons.mpr ⟨w_457, List.forall_mem_cons.mpr ⟨w_60, fun _ h => absurd h List.not_mem_nil⟩⟩⟩⟩⟩⟩, w_458, w_464, ⟨by decide +kernel, by decide +kernel, by decide +kernel⟩⟩
theorem kX4_34_X10 : LkO "EndlessTug$Person" 34 "EndlessTug$Woman" mX3_letsGo mX10_letsGo 2 := ⟨List.forall_mem_cons.mpr ⟨w_550, List.forall_mem_cons.mpr ⟨w_447, List.forall_mem_cons.mpr ⟨w_445, List.forall_mem_cons.mpr ⟨w_460, List.forall_mem_cons.mpr ⟨w_461, List.forall_mem_cons.mpr ⟨w_58, fun _ h => absurd h List.not_mem_nil⟩⟩⟩⟩⟩⟩, w_462, w_464, ⟨by decide +kernel, by decide +kernel, by decide +kernel⟩⟩
theorem w_131 : (.methodLink "EndlessTug$Preacher" 3 yX7_init : Cond) ∈ ws0 := ws0_mem (List.mem_append_right _ (List.mem_append_left _ (List.mem_of_getElem? (i := 79) rfl))) rfl
theorem kX5_3 : LkI "EndlessTug$Preacher" 3 mX7_init 1 := ⟨List.forall_mem_cons.mpr ⟨w_131, List.forall_mem_cons.mpr ⟨w_105, List.forall_mem_cons.mpr ⟨w_56, fun _ h => absurd h List.not_mem_nil⟩⟩⟩, w_106, rfl, rfl, ⟨by decide +kernel, by decide +kernel, by decide +kernel⟩⟩
theorem w_1256 : (.sameMethod "EndlessTug$Son" "EndlessTug$Son" "isOf" "(I)Z" : Cond) ∈ ws0 := ws0_mem (List.mem_append_right _ (List.mem_append_right _ (List.mem_append_right _ (List.mem_append_right _ (List.mem_append_right _ (List.mem_append_right _ (List.mem_of_getElem? (i := 4) rfl))))))) rfl
theorem w_133 : (.superclass "EndlessTug$Preacher" "EndlessTug$Son" : Cond) ∈ ws0 := ws0_mem (List.mem_append_right _ (List.mem_append_left _ (List.mem_of_getElem? (i := 81) rfl))) rfl
theorem w_488 : (.methodLink "EndlessTug$Preacher" 9 yX7_isOf : Cond) ∈ ws0 := ws0_mem (List.mem_append_right _ (List.mem_append_right _ (List.mem_append_left _ (List.mem_of_getElem? (i := 196) rfl)))) rfl
theorem kX5_9 : LkSU "EndlessTug$Preacher" 9 mX7_isOf 1 := ⟨List.forall_mem_cons.mpr ⟨w_488, List.forall_mem_cons.mpr ⟨w_1256, List.forall_mem_cons.mpr ⟨w_133, List.forall_mem_cons.mpr ⟨w_489, List.forall_mem_cons.mpr ⟨w_56, fun _ h => absurd h List.not_mem_nil⟩⟩⟩⟩⟩, w_490, by decide +kernel, by decide +kernel⟩
theorem w_370 : (.methodLink "EndlessTug$Preacher" 13 yX2_isSunday : Cond) ∈ ws0 := ws0_mem (List.mem_append_right _ (List.mem_append_right _ (List.mem_append_left _ (List.mem_of_getElem? (i := 78) rfl)))) rfl
theorem kX5_13 : LkV "EndlessTug$Preacher" 13 mX2_isSunday 0 := ⟨List.forall_mem_cons.mpr ⟨w_370, List.forall_mem_cons.mpr ⟨w_343, List.forall_mem_cons.mpr ⟨w_344, List.forall_mem_cons.mpr ⟨w_54, fun _ h => absurd h List.not_mem_nil⟩⟩⟩⟩, w_345, ⟨by decide +kernel, by decide +kernel, by decide +kernel⟩⟩
theorem w_1251 : (.sameMethod "EndlessTug$Son" "EndlessTug$Son" "pull" "(LEndlessTug$Person;LEndlessTug$Green;)I" : Cond) ∈ ws0 := ws0_mem (List.mem_append_right _ (List.mem_append_right _ (List.mem_append_right _ (List.mem_append_right _ (List.mem_append_right _ (List.mem_append_left _ (List.mem_of_getElem? (i := 239) rfl))))))) rfl
theorem w_371 : (.methodLink "EndlessTug$Preacher" 19 yX7_pull : Cond) ∈ ws0 := ws0_mem (List.mem_append_right _ (List.mem_append_right _ (List.mem_append_left _ (List.mem_of_getElem? (i := 79) rfl)))) rfl
theorem kX5_19 : LkSU "EndlessTug$Preacher" 19 mX7_pull 2 := ⟨List.forall_mem_cons.mpr ⟨w_371, List.forall_mem_cons.mpr ⟨w_1251, List.forall_mem_cons.mpr ⟨w_133, List.forall_mem_cons.mpr ⟨w_372, List.forall_mem_cons.mpr ⟨w_56, fun _ h => absurd h List.not_mem_nil⟩⟩⟩⟩⟩, w_373, by decide +kernel, by decide +kernel⟩
theorem w_1253 : (.sameMethod "EndlessTug$Son" "EndlessTug$Son" "tire" "(LEndlessTug$Green;)I" : Cond) ∈ ws0 := ws0_mem (List.mem_append_right _ (List.mem_append_right _ (List.mem_append_right _ (List.mem_append_right _ (List.mem_append_right _ (List.mem_append_right _ (List.mem_of_getElem? (i := 1) rfl))))))) rfl
theorem w_431 : (.methodLink "EndlessTug$Preacher" 23 yX7_tire : Cond) ∈ ws0 := ws0_mem (List.mem_append_right _ (List.mem_append_right _ (List.mem_append_left _ (List.mem_of_getElem? (i := 139) rfl)))) rfl
theorem kX5_23 : LkSU "EndlessTug$Preacher" 23 mX7_tire 1 := ⟨List.forall_mem_cons.mpr ⟨w_431, List.forall_mem_cons.mpr ⟨w_1253, List.forall_mem_cons.mpr ⟨w_133, List.forall_mem_cons.mpr ⟨w_432, List.forall_mem_cons.mpr ⟨w_56, fun _ h => absurd h List.not_mem_nil⟩⟩⟩⟩⟩, w_433, by decide +kernel, by decide +kernel⟩
theorem w_267 : (.methodLink "EndlessTug$Sheet" 3 Lib.objectInit : Cond) ∈ ws0 := ws0_mem (List.mem_append_right _ (List.mem_append_left _ (List.mem_of_getElem? (i := 215) rfl))) rfl
theorem kX6_3 : ∀ w ∈ ([.methodLink "EndlessTug$Sheet" 3 Lib.objectInit, .instanceMethod Lib.objectInit, .code Lib.objectInit ⟨#[0xb1]⟩ 1 none] : List Cond), w ∈ ws0 := List.forall_mem_cons.mpr ⟨w_267, List.forall_mem_cons.mpr ⟨w_80, List.forall_mem_cons.mpr ⟨w_81, fun _ h => absurd h List.not_mem_nil⟩⟩⟩
theorem w_788 : (.methodLink "EndlessTug$Sheet" 22 yJ7_fill_d0a16 : Cond) ∈ ws0 := ws0_mem (List.mem_append_right _ (List.mem_append_right _ (List.mem_append_right _ (List.mem_append_right _ (List.mem_append_left _ (List.mem_of_getElem? (i := 16) rfl)))))) rfl
theorem w_789 : (.static yJ7_fill_d0a16 : Cond) ∈ ws0 := ws0_mem (List.mem_append_right _ (List.mem_append_right _ (List.mem_append_right _ (List.mem_append_right _ (List.mem_append_left _ (List.mem_of_getElem? (i := 17) rfl)))))) rfl
theorem w_72 : (.initialized "java/util/Arrays" : Cond) ∈ ws0 := ws0_mem (List.mem_append_right _ (List.mem_append_left _ (List.mem_of_getElem? (i := 20) rfl))) rfl
theorem w_790 : (cdW mJ7_fill_d0a16 : Cond) ∈ ws0 := ws0_mem (List.mem_append_right _ (List.mem_append_right _ (List.mem_append_right _ (List.mem_append_right _ (List.mem_append_left _ (List.mem_of_getElem? (i := 18) rfl)))))) rfl
theorem kX6_22 : LkS "EndlessTug$Sheet" 22 mJ7_fill_d0a16 2 := ⟨List.forall_mem_cons.mpr ⟨w_788, List.forall_mem_cons.mpr ⟨w_789, List.forall_mem_cons.mpr ⟨w_72, fun _ h => absurd h List.not_mem_nil⟩⟩⟩, w_790, ⟨by decide +kernel, by decide +kernel, by decide +kernel⟩⟩
theorem w_107 : (.methodLink "EndlessTug$Son" 3 yX3_init : Cond) ∈ ws0 := ws0_mem (List.mem_append_right _ (List.mem_append_left _ (List.mem_of_getElem? (i := 55) rfl))) rfl
theorem kX7_3 : LkI "EndlessTug$Son" 3 mX3_init 1 := ⟨List.forall_mem_cons.mpr ⟨w_107, List.forall_mem_cons.mpr ⟨w_94, List.forall_mem_cons.mpr ⟨w_55, fun _ h => absurd h List.not_mem_nil⟩⟩⟩, w_95, rfl, rfl, ⟨by decide +kernel, by decide +kernel, by decide +kernel⟩⟩
theorem w_109 : (.superclass "EndlessTug$Son" "EndlessTug$Man" : Cond) ∈ ws0 := ws0_mem (List.mem_append_right _ (List.mem_append_left _ (List.mem_of_getElem? (i := 57) rfl))) rfl
theorem w_491 : (.methodLink "EndlessTug$Son" 9 yX3_isOf : Cond) ∈ ws0 := ws0_mem (List.mem_append_right _ (List.mem_append_right _ (List.mem_append_left _ (List.mem_of_getElem? (i := 199) rfl)))) rfl
theorem kX7_9 : LkSU "EndlessTug$Son" 9 mX3_isOf 1 := ⟨List.forall_mem_cons.mpr ⟨w_491, List.forall_mem_cons.mpr ⟨w_480, List.forall_mem_cons.mpr ⟨w_109, List.forall_mem_cons.mpr ⟨w_478, List.forall_mem_cons.mpr ⟨w_55, fun _ h => absurd h List.not_mem_nil⟩⟩⟩⟩⟩, w_501, by decide +kernel, by decide +kernel⟩
theorem w_374 : (.methodLink "EndlessTug$Son" 13 yX3_pull : Cond) ∈ ws0 := ws0_mem (List.mem_append_right _ (List.mem_append_right _ (List.mem_append_left _ (List.mem_of_getElem? (i := 82) rfl)))) rfl
theorem kX7_13 : LkSU "EndlessTug$Son" 13 mX3_pull 2 := ⟨List.forall_mem_cons.mpr ⟨w_374, List.forall_mem_cons.mpr ⟨w_361, List.forall_mem_cons.mpr ⟨w_109, List.forall_mem_cons.mpr ⟨w_359, List.forall_mem_cons.mpr ⟨w_55, fun _ h => absurd h List.not_mem_nil⟩⟩⟩⟩⟩, w_389, by decide +kernel, by decide +kernel⟩
theorem w_434 : (.methodLink "EndlessTug$Son" 17 yX3_tire : Cond) ∈ ws0 := ws0_mem (List.mem_append_right _ (List.mem_append_right _ (List.mem_append_left _ (List.mem_of_getElem? (i := 142) rfl)))) rfl
theorem kX7_17 : LkSU "EndlessTug$Son" 17 mX3_tire 1 := ⟨List.forall_mem_cons.mpr ⟨w_434, List.forall_mem_cons.mpr ⟨w_423, List.forall_mem_cons.mpr ⟨w_109, List.forall_mem_cons.mpr ⟨w_421, List.forall_mem_cons.mpr ⟨w_55, fun _ h => absurd h List.not_mem_nil⟩⟩⟩⟩⟩, w_443, by decide +kernel, by decide +kernel⟩
theorem w_139 : (.methodLink "EndlessTug$Stranger" 3 yX1_init : Cond) ∈ ws0 := ws0_mem (List.mem_append_right _ (List.mem_append_left _ (List.mem_of_getElem? (i := 87) rfl))) rfl
theorem kX8_3 : LkI "EndlessTug$Stranger" 3 mX1_init 1 := ⟨List.forall_mem_cons.mpr ⟨w_139, List.forall_mem_cons.mpr ⟨w_113, List.forall_mem_cons.mpr ⟨w_57, fun _ h => absurd h List.not_mem_nil⟩⟩⟩, w_114, rfl, rfl, ⟨by decide +kernel, by decide +kernel, by decide +kernel⟩⟩
theorem w_1257 : (.sameMethod "EndlessTug$Drinker" "EndlessTug$Drinker" "isOf" "(I)Z" : Cond) ∈ ws0 := ws0_mem (List.mem_append_right _ (List.mem_append_right _ (List.mem_append_right _ (List.mem_append_right _ (List.mem_append_right _ (List.mem_append_right _ (List.mem_of_getElem? (i := 5) rfl))))))) rfl
theorem w_141 : (.superclass "EndlessTug$Stranger" "EndlessTug$Drinker" : Cond) ∈ ws0 := ws0_mem (List.mem_append_right _ (List.mem_append_left _ (List.mem_of_getElem? (i := 89) rfl))) rfl
theorem w_496 : (.methodLink "EndlessTug$Stranger" 9 yX1_isOf : Cond) ∈ ws0 := ws0_mem (List.mem_append_right _ (List.mem_append_right _ (List.mem_append_left _ (List.mem_of_getElem? (i := 204) rfl)))) rfl
theorem kX8_9 : LkSU "EndlessTug$Stranger" 9 mX1_isOf 1 := ⟨List.forall_mem_cons.mpr ⟨w_496, List.forall_mem_cons.mpr ⟨w_1257, List.forall_mem_cons.mpr ⟨w_141, List.forall_mem_cons.mpr ⟨w_482, List.forall_mem_cons.mpr ⟨w_57, fun _ h => absurd h List.not_mem_nil⟩⟩⟩⟩⟩, w_483, by decide +kernel, by decide +kernel⟩
theorem w_379 : (.methodLink "EndlessTug$Stranger" 19 yX2_towards : Cond) ∈ ws0 := ws0_mem (List.mem_append_right _ (List.mem_append_right _ (List.mem_append_left _ (List.mem_of_getElem? (i := 87) rfl)))) rfl
theorem kX8_19 : LkV "EndlessTug$Stranger" 19 mX2_towards 1 := ⟨List.forall_mem_cons.mpr ⟨w_379, List.forall_mem_cons.mpr ⟨w_380, List.forall_mem_cons.mpr ⟨w_381, List.forall_mem_cons.mpr ⟨w_54, fun _ h => absurd h List.not_mem_nil⟩⟩⟩⟩, w_382, ⟨by decide +kernel, by decide +kernel, by decide +kernel⟩⟩
theorem w_1252 : (.sameMethod "EndlessTug$Drinker" "EndlessTug$Drinker" "pull" "(LEndlessTug$Person;LEndlessTug$Green;)I" : Cond) ∈ ws0 := ws0_mem (List.mem_append_right _ (List.mem_append_right _ (List.mem_append_right _ (List.mem_append_right _ (List.mem_append_right _ (List.mem_append_right _ (List.mem_of_getElem? (i := 0) rfl))))))) rfl
theorem w_383 : (.methodLink "EndlessTug$Stranger" 25 yX1_pull : Cond) ∈ ws0 := ws0_mem (List.mem_append_right _ (List.mem_append_right _ (List.mem_append_left _ (List.mem_of_getElem? (i := 91) rfl)))) rfl
theorem kX8_25 : LkSU "EndlessTug$Stranger" 25 mX1_pull 2 := ⟨List.forall_mem_cons.mpr ⟨w_383, List.forall_mem_cons.mpr ⟨w_1252, List.forall_mem_cons.mpr ⟨w_141, List.forall_mem_cons.mpr ⟨w_363, List.forall_mem_cons.mpr ⟨w_57, fun _ h => absurd h List.not_mem_nil⟩⟩⟩⟩⟩, w_364, by decide +kernel, by decide +kernel⟩
theorem w_1254 : (.sameMethod "EndlessTug$Drinker" "EndlessTug$Drinker" "tire" "(LEndlessTug$Green;)I" : Cond) ∈ ws0 := ws0_mem (List.mem_append_right _ (List.mem_append_right _ (List.mem_append_right _ (List.mem_append_right _ (List.mem_append_right _ (List.mem_append_right _ (List.mem_of_getElem? (i := 2) rfl))))))) rfl
theorem w_439 : (.methodLink "EndlessTug$Stranger" 29 yX1_tire : Cond) ∈ ws0 := ws0_mem (List.mem_append_right _ (List.mem_append_right _ (List.mem_append_left _ (List.mem_of_getElem? (i := 147) rfl)))) rfl
theorem kX8_29 : LkSU "EndlessTug$Stranger" 29 mX1_tire 1 := ⟨List.forall_mem_cons.mpr ⟨w_439, List.forall_mem_cons.mpr ⟨w_1254, List.forall_mem_cons.mpr ⟨w_141, List.forall_mem_cons.mpr ⟨w_425, List.forall_mem_cons.mpr ⟨w_57, fun _ h => absurd h List.not_mem_nil⟩⟩⟩⟩⟩, w_426, by decide +kernel, by decide +kernel⟩
theorem w_1255 : (.sameMethod "EndlessTug$Drinker" "EndlessTug$Drinker" "letsGo" "(LEndlessTug$Person;LEndlessTug$Green;)Z" : Cond) ∈ ws0 := ws0_mem (List.mem_append_right _ (List.mem_append_right _ (List.mem_append_right _ (List.mem_append_right _ (List.mem_append_right _ (List.mem_append_right _ (List.mem_of_getElem? (i := 3) rfl))))))) rfl
theorem w_459 : (.methodLink "EndlessTug$Stranger" 36 yX1_letsGo : Cond) ∈ ws0 := ws0_mem (List.mem_append_right _ (List.mem_append_right _ (List.mem_append_left _ (List.mem_of_getElem? (i := 167) rfl)))) rfl
theorem kX8_36 : LkSU "EndlessTug$Stranger" 36 mX1_letsGo 2 := ⟨List.forall_mem_cons.mpr ⟨w_459, List.forall_mem_cons.mpr ⟨w_1255, List.forall_mem_cons.mpr ⟨w_141, List.forall_mem_cons.mpr ⟨w_449, List.forall_mem_cons.mpr ⟨w_57, fun _ h => absurd h List.not_mem_nil⟩⟩⟩⟩⟩, w_450, by decide +kernel, by decide +kernel⟩
theorem w_239 : (.methodLink "EndlessTug$Tape" 3 Lib.objectInit : Cond) ∈ ws0 := ws0_mem (List.mem_append_right _ (List.mem_append_left _ (List.mem_of_getElem? (i := 187) rfl))) rfl
theorem kX9_3 : ∀ w ∈ ([.methodLink "EndlessTug$Tape" 3 Lib.objectInit, .instanceMethod Lib.objectInit, .code Lib.objectInit ⟨#[0xb1]⟩ 1 none] : List Cond), w ∈ ws0 := List.forall_mem_cons.mpr ⟨w_239, List.forall_mem_cons.mpr ⟨w_80, List.forall_mem_cons.mpr ⟨w_81, fun _ h => absurd h List.not_mem_nil⟩⟩⟩
theorem w_663 : (.methodLink "EndlessTug$Tape" 22 yX9_lookAtNext : Cond) ∈ ws0 := ws0_mem (List.mem_append_right _ (List.mem_append_right _ (List.mem_append_right _ (List.mem_append_left _ (List.mem_of_getElem? (i := 131) rfl))))) rfl
theorem w_665 : (.instanceMethod yX9_lookAtNext : Cond) ∈ ws0 := ws0_mem (List.mem_append_right _ (List.mem_append_right _ (List.mem_append_right _ (List.mem_append_left _ (List.mem_of_getElem? (i := 133) rfl))))) rfl
theorem w_5 : (.selects "EndlessTug$Tape" yX9_lookAtNext yX9_lookAtNext : Cond) ∈ ws0 := ws0_mem (List.mem_append_left _ (List.mem_of_getElem? (i := 5) (by decide +kernel))) rfl
theorem w_666 : (cdW mX9_lookAtNext : Cond) ∈ ws0 := ws0_mem (List.mem_append_right _ (List.mem_append_right _ (List.mem_append_right _ (List.mem_append_left _ (List.mem_of_getElem? (i := 134) rfl))))) rfl
theorem kX9_22 : LkV "EndlessTug$Tape" 22 mX9_lookAtNext 0 := ⟨List.forall_mem_cons.mpr ⟨w_663, List.forall_mem_cons.mpr ⟨w_665, List.forall_mem_cons.mpr ⟨w_5, List.forall_mem_cons.mpr ⟨w_63, fun _ h => absurd h List.not_mem_nil⟩⟩⟩⟩, w_666, ⟨by decide +kernel, by decide +kernel, by decide +kernel⟩⟩
theorem w_670 : (.methodLink "EndlessTug$Tape" 25 yX9_takeItem : Cond) ∈ ws0 := ws0_mem (List.mem_append_right _ (List.mem_append_right _ (List.mem_append_right _ (List.mem_append_left _ (List.mem_of_getElem? (i := 138) rfl))))) rfl
theorem w_672 : (.instanceMethod yX9_takeItem : Cond) ∈ ws0 := ws0_mem (List.mem_append_right _ (List.mem_append_right _ (List.mem_append_right _ (List.mem_append_left _ (List.mem_of_getElem? (i := 140) rfl))))) rfl
theorem w_6 : (.selects "EndlessTug$Tape" yX9_takeItem yX9_takeItem : Cond) ∈ ws0 := ws0_mem (List.mem_append_left _ (List.mem_of_getElem? (i := 6) (by decide +kernel))) rfl
theorem w_673 : (cdW mX9_takeItem : Cond) ∈ ws0 := ws0_mem (List.mem_append_right _ (List.mem_append_right _ (List.mem_append_right _ (List.mem_append_left _ (List.mem_of_getElem? (i := 141) rfl))))) rfl
theorem kX9_25 : LkV "EndlessTug$Tape" 25 mX9_takeItem 1 := ⟨List.forall_mem_cons.mpr ⟨w_670, List.forall_mem_cons.mpr ⟨w_672, List.forall_mem_cons.mpr ⟨w_6, List.forall_mem_cons.mpr ⟨w_63, fun _ h => absurd h List.not_mem_nil⟩⟩⟩⟩, w_673, ⟨by decide +kernel, by decide +kernel, by decide +kernel⟩⟩
theorem w_674 : (.methodLink "EndlessTug$Tape" 35 yX9_kindNamed : Cond) ∈ ws0 := ws0_mem (List.mem_append_right _ (List.mem_append_right _ (List.mem_append_right _ (List.mem_append_left _ (List.mem_of_getElem? (i := 142) rfl))))) rfl
theorem w_676 : (.instanceMethod yX9_kindNamed : Cond) ∈ ws0 := ws0_mem (List.mem_append_right _ (List.mem_append_right _ (List.mem_append_right _ (List.mem_append_left _ (List.mem_of_getElem? (i := 144) rfl))))) rfl
theorem w_7 : (.selects "EndlessTug$Tape" yX9_kindNamed yX9_kindNamed : Cond) ∈ ws0 := ws0_mem (List.mem_append_left _ (List.mem_of_getElem? (i := 7) (by decide +kernel))) rfl
theorem w_677 : (cdW mX9_kindNamed : Cond) ∈ ws0 := ws0_mem (List.mem_append_right _ (List.mem_append_right _ (List.mem_append_right _ (List.mem_append_left _ (List.mem_of_getElem? (i := 145) rfl))))) rfl
theorem kX9_35 : LkV "EndlessTug$Tape" 35 mX9_kindNamed 0 := ⟨List.forall_mem_cons.mpr ⟨w_674, List.forall_mem_cons.mpr ⟨w_676, List.forall_mem_cons.mpr ⟨w_7, List.forall_mem_cons.mpr ⟨w_63, fun _ h => absurd h List.not_mem_nil⟩⟩⟩⟩, w_677, ⟨by decide +kernel, by decide +kernel, by decide +kernel⟩⟩
theorem w_736 : (.methodLink "EndlessTug$Tape" 39 yX9_takePerson : Cond) ∈ ws0 := ws0_mem (List.mem_append_right _ (List.mem_append_right _ (List.mem_append_right _ (List.mem_append_left _ (List.mem_of_getElem? (i := 204) rfl))))) rfl
theorem w_738 : (.instanceMethod yX9_takePerson : Cond) ∈ ws0 := ws0_mem (List.mem_append_right _ (List.mem_append_right _ (List.mem_append_right _ (List.mem_append_left _ (List.mem_of_getElem? (i := 206) rfl))))) rfl
theorem w_9 : (.selects "EndlessTug$Tape" yX9_takePerson yX9_takePerson : Cond) ∈ ws0 := ws0_mem (List.mem_append_left _ (List.mem_of_getElem? (i := 9) (by decide +kernel))) rfl
theorem w_739 : (cdW mX9_takePerson : Cond) ∈ ws0 := ws0_mem (List.mem_append_right _ (List.mem_append_right _ (List.mem_append_right _ (List.mem_append_left _ (List.mem_of_getElem? (i := 207) rfl))))) rfl
theorem kX9_39 : LkV "EndlessTug$Tape" 39 mX9_takePerson 2 := ⟨List.forall_mem_cons.mpr ⟨w_736, List.forall_mem_cons.mpr ⟨w_738, List.forall_mem_cons.mpr ⟨w_9, List.forall_mem_cons.mpr ⟨w_63, fun _ h => absurd h List.not_mem_nil⟩⟩⟩⟩, w_739, ⟨by decide +kernel, by decide +kernel, by decide +kernel⟩⟩
theorem w_749 : (.methodLink "EndlessTug$Tape" 45 yX9_takeWord : Cond) ∈ ws0 := ws0_mem (List.mem_append_right _ (List.mem_append_right _ (List.mem_append_right _ (List.mem_append_left _ (List.mem_of_getElem? (i := 217) rfl))))) rfl
theorem w_751 : (.instanceMethod yX9_takeWord : Cond) ∈ ws0 := ws0_mem (List.mem_append_right _ (List.mem_append_right _ (List.mem_append_right _ (List.mem_append_left _ (List.mem_of_getElem? (i := 219) rfl))))) rfl
theorem w_11 : (.selects "EndlessTug$Tape" yX9_takeWord yX9_takeWord : Cond) ∈ ws0 := ws0_mem (List.mem_append_left _ (List.mem_of_getElem? (i := 11) (by decide +kernel))) rfl
theorem w_752 : (cdW mX9_takeWord : Cond) ∈ ws0 := ws0_mem (List.mem_append_right _ (List.mem_append_right _ (List.mem_append_right _ (List.mem_append_left _ (List.mem_of_getElem? (i := 220) rfl))))) rfl
theorem kX9_45 : LkV "EndlessTug$Tape" 45 mX9_takeWord 1 := ⟨List.forall_mem_cons.mpr ⟨w_749, List.forall_mem_cons.mpr ⟨w_751, List.forall_mem_cons.mpr ⟨w_11, List.forall_mem_cons.mpr ⟨w_63, fun _ h => absurd h List.not_mem_nil⟩⟩⟩⟩, w_752, ⟨by decide +kernel, by decide +kernel, by decide +kernel⟩⟩
theorem w_760 : (.methodLink "EndlessTug$Tape" 49 yX9_takeWeek : Cond) ∈ ws0 := ws0_mem (List.mem_append_right _ (List.mem_append_right _ (List.mem_append_right _ (List.mem_append_left _ (List.mem_of_getElem? (i := 228) rfl))))) rfl
theorem w_762 : (.instanceMethod yX9_takeWeek : Cond) ∈ ws0 := ws0_mem (List.mem_append_right _ (List.mem_append_right _ (List.mem_append_right _ (List.mem_append_left _ (List.mem_of_getElem? (i := 230) rfl))))) rfl
theorem w_13 : (.selects "EndlessTug$Tape" yX9_takeWeek yX9_takeWeek : Cond) ∈ ws0 := ws0_mem (List.mem_append_left _ (List.mem_of_getElem? (i := 13) (by decide +kernel))) rfl
theorem w_763 : (cdW mX9_takeWeek : Cond) ∈ ws0 := ws0_mem (List.mem_append_right _ (List.mem_append_right _ (List.mem_append_right _ (List.mem_append_left _ (List.mem_of_getElem? (i := 231) rfl))))) rfl
theorem kX9_49 : LkV "EndlessTug$Tape" 49 mX9_takeWeek 2 := ⟨List.forall_mem_cons.mpr ⟨w_760, List.forall_mem_cons.mpr ⟨w_762, List.forall_mem_cons.mpr ⟨w_13, List.forall_mem_cons.mpr ⟨w_63, fun _ h => absurd h List.not_mem_nil⟩⟩⟩⟩, w_763, ⟨by decide +kernel, by decide +kernel, by decide +kernel⟩⟩
theorem w_766 : (.methodLink "EndlessTug$Tape" 56 yX9_takeKnot : Cond) ∈ ws0 := ws0_mem (List.mem_append_right _ (List.mem_append_right _ (List.mem_append_right _ (List.mem_append_left _ (List.mem_of_getElem? (i := 234) rfl))))) rfl
theorem w_768 : (.instanceMethod yX9_takeKnot : Cond) ∈ ws0 := ws0_mem (List.mem_append_right _ (List.mem_append_right _ (List.mem_append_right _ (List.mem_append_left _ (List.mem_of_getElem? (i := 236) rfl))))) rfl
theorem w_14 : (.selects "EndlessTug$Tape" yX9_takeKnot yX9_takeKnot : Cond) ∈ ws0 := ws0_mem (List.mem_append_left _ (List.mem_of_getElem? (i := 14) (by decide +kernel))) rfl
theorem w_769 : (cdW mX9_takeKnot : Cond) ∈ ws0 := ws0_mem (List.mem_append_right _ (List.mem_append_right _ (List.mem_append_right _ (List.mem_append_left _ (List.mem_of_getElem? (i := 237) rfl))))) rfl
theorem kX9_56 : LkV "EndlessTug$Tape" 56 mX9_takeKnot 1 := ⟨List.forall_mem_cons.mpr ⟨w_766, List.forall_mem_cons.mpr ⟨w_768, List.forall_mem_cons.mpr ⟨w_14, List.forall_mem_cons.mpr ⟨w_63, fun _ h => absurd h List.not_mem_nil⟩⟩⟩⟩, w_769, ⟨by decide +kernel, by decide +kernel, by decide +kernel⟩⟩
theorem w_771 : (.methodLink "EndlessTug$Tape" 61 yX9_takeSlack : Cond) ∈ ws0 := ws0_mem (List.mem_append_right _ (List.mem_append_right _ (List.mem_append_right _ (List.mem_append_left _ (List.mem_of_getElem? (i := 239) rfl))))) rfl
theorem w_773 : (.instanceMethod yX9_takeSlack : Cond) ∈ ws0 := ws0_mem (List.mem_append_right _ (List.mem_append_right _ (List.mem_append_right _ (List.mem_append_right _ (List.mem_append_left _ (List.mem_of_getElem? (i := 1) rfl)))))) rfl
theorem w_15 : (.selects "EndlessTug$Tape" yX9_takeSlack yX9_takeSlack : Cond) ∈ ws0 := ws0_mem (List.mem_append_left _ (List.mem_of_getElem? (i := 15) (by decide +kernel))) rfl
theorem w_774 : (cdW mX9_takeSlack : Cond) ∈ ws0 := ws0_mem (List.mem_append_right _ (List.mem_append_right _ (List.mem_append_right _ (List.mem_append_right _ (List.mem_append_left _ (List.mem_of_getElem? (i := 2) rfl)))))) rfl
theorem kX9_61 : LkV "EndlessTug$Tape" 61 mX9_takeSlack 1 := ⟨List.forall_mem_cons.mpr ⟨w_771, List.forall_mem_cons.mpr ⟨w_773, List.forall_mem_cons.mpr ⟨w_15, List.forall_mem_cons.mpr ⟨w_63, fun _ h => absurd h List.not_mem_nil⟩⟩⟩⟩, w_774, ⟨by decide +kernel, by decide +kernel, by decide +kernel⟩⟩
theorem w_740 : (.methodLink "EndlessTug$Tape" 64 yX2_isFull : Cond) ∈ ws0 := ws0_mem (List.mem_append_right _ (List.mem_append_right _ (List.mem_append_right _ (List.mem_append_left _ (List.mem_of_getElem? (i := 208) rfl))))) rfl
theorem kX9_64 : LkV "EndlessTug$Tape" 64 mX2_isFull 0 := ⟨List.forall_mem_cons.mpr ⟨w_740, List.forall_mem_cons.mpr ⟨w_401, List.forall_mem_cons.mpr ⟨w_402, List.forall_mem_cons.mpr ⟨w_54, fun _ h => absurd h List.not_mem_nil⟩⟩⟩⟩, w_403, ⟨by decide +kernel, by decide +kernel, by decide +kernel⟩⟩
theorem w_741 : (.methodLink "EndlessTug$Tape" 70 yX9_takeSide : Cond) ∈ ws0 := ws0_mem (List.mem_append_right _ (List.mem_append_right _ (List.mem_append_right _ (List.mem_append_left _ (List.mem_of_getElem? (i := 209) rfl))))) rfl
theorem w_743 : (.instanceMethod yX9_takeSide : Cond) ∈ ws0 := ws0_mem (List.mem_append_right _ (List.mem_append_right _ (List.mem_append_right _ (List.mem_append_left _ (List.mem_of_getElem? (i := 211) rfl))))) rfl
theorem w_10 : (.selects "EndlessTug$Tape" yX9_takeSide yX9_takeSide : Cond) ∈ ws0 := ws0_mem (List.mem_append_left _ (List.mem_of_getElem? (i := 10) (by decide +kernel))) rfl
theorem w_744 : (cdW mX9_takeSide : Cond) ∈ ws0 := ws0_mem (List.mem_append_right _ (List.mem_append_right _ (List.mem_append_right _ (List.mem_append_left _ (List.mem_of_getElem? (i := 212) rfl))))) rfl
theorem kX9_70 : LkV "EndlessTug$Tape" 70 mX9_takeSide 0 := ⟨List.forall_mem_cons.mpr ⟨w_741, List.forall_mem_cons.mpr ⟨w_743, List.forall_mem_cons.mpr ⟨w_10, List.forall_mem_cons.mpr ⟨w_63, fun _ h => absurd h List.not_mem_nil⟩⟩⟩⟩, w_744, ⟨by decide +kernel, by decide +kernel, by decide +kernel⟩⟩
theorem w_747 : (.methodLink "EndlessTug$Tape" 78 yX2_addOne : Cond) ∈ ws0 := ws0_mem (List.mem_append_right _ (List.mem_append_right _ (List.mem_append_right _ (List.mem_append_left _ (List.mem_of_getElem? (i := 215) rfl))))) rfl
theorem kX9_78 : LkV "EndlessTug$Tape" 78 mX2_addOne 2 := ⟨List.forall_mem_cons.mpr ⟨w_747, List.forall_mem_cons.mpr ⟨w_406, List.forall_mem_cons.mpr ⟨w_407, List.forall_mem_cons.mpr ⟨w_54, fun _ h => absurd h List.not_mem_nil⟩⟩⟩⟩, w_408, ⟨by decide +kernel, by decide +kernel, by decide +kernel⟩⟩
theorem w_753 : (.methodLink "EndlessTug$Tape" 84 yX9_takeNumber : Cond) ∈ ws0 := ws0_mem (List.mem_append_right _ (List.mem_append_right _ (List.mem_append_right _ (List.mem_append_left _ (List.mem_of_getElem? (i := 221) rfl))))) rfl
theorem w_755 : (.instanceMethod yX9_takeNumber : Cond) ∈ ws0 := ws0_mem (List.mem_append_right _ (List.mem_append_right _ (List.mem_append_right _ (List.mem_append_left _ (List.mem_of_getElem? (i := 223) rfl))))) rfl
theorem w_12 : (.selects "EndlessTug$Tape" yX9_takeNumber yX9_takeNumber : Cond) ∈ ws0 := ws0_mem (List.mem_append_left _ (List.mem_of_getElem? (i := 12) (by decide +kernel))) rfl
theorem w_756 : (cdW mX9_takeNumber : Cond) ∈ ws0 := ws0_mem (List.mem_append_right _ (List.mem_append_right _ (List.mem_append_right _ (List.mem_append_left _ (List.mem_of_getElem? (i := 224) rfl))))) rfl
theorem kX9_84 : LkV "EndlessTug$Tape" 84 mX9_takeNumber 2 := ⟨List.forall_mem_cons.mpr ⟨w_753, List.forall_mem_cons.mpr ⟨w_755, List.forall_mem_cons.mpr ⟨w_12, List.forall_mem_cons.mpr ⟨w_63, fun _ h => absurd h List.not_mem_nil⟩⟩⟩⟩, w_756, ⟨by decide +kernel, by decide +kernel, by decide +kernel⟩⟩
theorem w_679 : (.methodLink "EndlessTug$Tape" 111 yX9_isWord : Cond) ∈ ws0 := ws0_mem (List.mem_append_right _ (List.mem_append_right _ (List.mem_append_right _ (List.mem_append_left _ (List.mem_of_getElem? (i := 147) rfl))))) rfl
theorem w_681 : (.instanceMethod yX9_isWord : Cond) ∈ ws0 := ws0_mem (List.mem_append_right _ (List.mem_append_right _ (List.mem_append_right _ (List.mem_append_left _ (List.mem_of_getElem? (i := 149) rfl))))) rfl
theorem w_8 : (.selects "EndlessTug$Tape" yX9_isWord yX9_isWord : Cond) ∈ ws0 := ws0_mem (List.mem_append_left _ (List.mem_of_getElem? (i := 8) (by decide +kernel))) rfl
theorem w_682 : (cdW mX9_isWord : Cond) ∈ ws0 := ws0_mem (List.mem_append_right _ (List.mem_append_right _ (List.mem_append_right _ (List.mem_append_left _ (List.mem_of_getElem? (i := 150) rfl))))) rfl
theorem kX9_111 : LkV "EndlessTug$Tape" 111 mX9_isWord 1 := ⟨List.forall_mem_cons.mpr ⟨w_679, List.forall_mem_cons.mpr ⟨w_681, List.forall_mem_cons.mpr ⟨w_8, List.forall_mem_cons.mpr ⟨w_63, fun _ h => absurd h List.not_mem_nil⟩⟩⟩⟩, w_682, ⟨by decide +kernel, by decide +kernel, by decide +kernel⟩⟩
theorem w_683 : (.methodLink "EndlessTug$Tape" 128 yJ0_length_8abf5 : Cond) ∈ ws0 := ws0_mem (List.mem_append_right _ (List.mem_append_right _ (List.mem_append_right _ (List.mem_append_left _ (List.mem_of_getElem? (i := 151) rfl))))) rfl
theorem w_684 : (.instanceMethod yJ0_length_8abf5 : Cond) ∈ ws0 := ws0_mem (List.mem_append_right _ (List.mem_append_right _ (List.mem_append_right _ (List.mem_append_left _ (List.mem_of_getElem? (i := 152) rfl))))) rfl
theorem w_685 : (.selects "java/lang/String" yJ0_length_8abf5 yJ0_length_8abf5 : Cond) ∈ ws0 := ws0_mem (List.mem_append_right _ (List.mem_append_right _ (List.mem_append_right _ (List.mem_append_left _ (List.mem_of_getElem? (i := 153) rfl))))) rfl
theorem w_68 : (.initialized "java/lang/String" : Cond) ∈ ws0 := ws0_mem (List.mem_append_right _ (List.mem_append_left _ (List.mem_of_getElem? (i := 16) rfl))) rfl
theorem w_686 : (cdW mJ0_length_8abf5 : Cond) ∈ ws0 := ws0_mem (List.mem_append_right _ (List.mem_append_right _ (List.mem_append_right _ (List.mem_append_left _ (List.mem_of_getElem? (i := 154) rfl))))) rfl
theorem kX9_128 : LkV "EndlessTug$Tape" 128 mJ0_length_8abf5 0 := ⟨List.forall_mem_cons.mpr ⟨w_683, List.forall_mem_cons.mpr ⟨w_684, List.forall_mem_cons.mpr ⟨w_685, List.forall_mem_cons.mpr ⟨w_68, fun _ h => absurd h List.not_mem_nil⟩⟩⟩⟩, w_686, ⟨by decide +kernel, by decide +kernel, by decide +kernel⟩⟩
theorem w_693 : (.methodLink "EndlessTug$Tape" 133 yJ0_charAt_5068e : Cond) ∈ ws0 := ws0_mem (List.mem_append_right _ (List.mem_append_right _ (List.mem_append_right _ (List.mem_append_left _ (List.mem_of_getElem? (i := 161) rfl))))) rfl
theorem w_694 : (.instanceMethod yJ0_charAt_5068e : Cond) ∈ ws0 := ws0_mem (List.mem_append_right _ (List.mem_append_right _ (List.mem_append_right _ (List.mem_append_left _ (List.mem_of_getElem? (i := 162) rfl))))) rfl
theorem w_695 : (.selects "java/lang/String" yJ0_charAt_5068e yJ0_charAt_5068e : Cond) ∈ ws0 := ws0_mem (List.mem_append_right _ (List.mem_append_right _ (List.mem_append_right _ (List.mem_append_left _ (List.mem_of_getElem? (i := 163) rfl))))) rfl
theorem w_696 : (cdW mJ0_charAt_5068e : Cond) ∈ ws0 := ws0_mem (List.mem_append_right _ (List.mem_append_right _ (List.mem_append_right _ (List.mem_append_left _ (List.mem_of_getElem? (i := 164) rfl))))) rfl
theorem kX9_133 : LkV "EndlessTug$Tape" 133 mJ0_charAt_5068e 1 := ⟨List.forall_mem_cons.mpr ⟨w_693, List.forall_mem_cons.mpr ⟨w_694, List.forall_mem_cons.mpr ⟨w_695, List.forall_mem_cons.mpr ⟨w_68, fun _ h => absurd h List.not_mem_nil⟩⟩⟩⟩, w_696, ⟨by decide +kernel, by decide +kernel, by decide +kernel⟩⟩
theorem w_667 : (.methodLink "EndlessTug$Tape" 137 yX9_sortOf : Cond) ∈ ws0 := ws0_mem (List.mem_append_right _ (List.mem_append_right _ (List.mem_append_right _ (List.mem_append_left _ (List.mem_of_getElem? (i := 135) rfl))))) rfl
theorem w_668 : (.static yX9_sortOf : Cond) ∈ ws0 := ws0_mem (List.mem_append_right _ (List.mem_append_right _ (List.mem_append_right _ (List.mem_append_left _ (List.mem_of_getElem? (i := 136) rfl))))) rfl
theorem w_669 : (cdW mX9_sortOf : Cond) ∈ ws0 := ws0_mem (List.mem_append_right _ (List.mem_append_right _ (List.mem_append_right _ (List.mem_append_left _ (List.mem_of_getElem? (i := 137) rfl))))) rfl
theorem kX9_137 : LkS "EndlessTug$Tape" 137 mX9_sortOf 1 := ⟨List.forall_mem_cons.mpr ⟨w_667, List.forall_mem_cons.mpr ⟨w_668, List.forall_mem_cons.mpr ⟨w_63, fun _ h => absurd h List.not_mem_nil⟩⟩⟩, w_669, ⟨by decide +kernel, by decide +kernel, by decide +kernel⟩⟩
theorem w_123 : (.methodLink "EndlessTug$Woman" 3 yX3_init : Cond) ∈ ws0 := ws0_mem (List.mem_append_right _ (List.mem_append_left _ (List.mem_of_getElem? (i := 71) rfl))) rfl
theorem kX10_3 : LkI "EndlessTug$Woman" 3 mX3_init 1 := ⟨List.forall_mem_cons.mpr ⟨w_123, List.forall_mem_cons.mpr ⟨w_94, List.forall_mem_cons.mpr ⟨w_55, fun _ h => absurd h List.not_mem_nil⟩⟩⟩, w_95, rfl, rfl, ⟨by decide +kernel, by decide +kernel, by decide +kernel⟩⟩
theorem w_125 : (.superclass "EndlessTug$Woman" "EndlessTug$Man" : Cond) ∈ ws0 := ws0_mem (List.mem_append_right _ (List.mem_append_left _ (List.mem_of_getElem? (i := 73) rfl))) rfl
theorem w_500 : (.methodLink "EndlessTug$Woman" 9 yX3_isOf : Cond) ∈ ws0 := ws0_mem (List.mem_append_right _ (List.mem_append_right _ (List.mem_append_left _ (List.mem_of_getElem? (i := 208) rfl)))) rfl
theorem kX10_9 : LkSU "EndlessTug$Woman" 9 mX3_isOf 1 := ⟨List.forall_mem_cons.mpr ⟨w_500, List.forall_mem_cons.mpr ⟨w_480, List.forall_mem_cons.mpr ⟨w_125, List.forall_mem_cons.mpr ⟨w_478, List.forall_mem_cons.mpr ⟨w_55, fun _ h => absurd h List.not_mem_nil⟩⟩⟩⟩⟩, w_501, by decide +kernel, by decide +kernel⟩
theorem w_387 : (.methodLink "EndlessTug$Woman" 13 yX2_isHarvest : Cond) ∈ ws0 := ws0_mem (List.mem_append_right _ (List.mem_append_right _ (List.mem_append_left _ (List.mem_of_getElem? (i := 95) rfl)))) rfl
theorem kX10_13 : LkV "EndlessTug$Woman" 13 mX2_isHarvest 0 := ⟨List.forall_mem_cons.mpr ⟨w_387, List.forall_mem_cons.mpr ⟨w_338, List.forall_mem_cons.mpr ⟨w_339, List.forall_mem_cons.mpr ⟨w_54, fun _ h => absurd h List.not_mem_nil⟩⟩⟩⟩, w_340, ⟨by decide +kernel, by decide +kernel, by decide +kernel⟩⟩
theorem w_388 : (.methodLink "EndlessTug$Woman" 19 yX3_pull : Cond) ∈ ws0 := ws0_mem (List.mem_append_right _ (List.mem_append_right _ (List.mem_append_left _ (List.mem_of_getElem? (i := 96) rfl)))) rfl
theorem kX10_19 : LkSU "EndlessTug$Woman" 19 mX3_pull 2 := ⟨List.forall_mem_cons.mpr ⟨w_388, List.forall_mem_cons.mpr ⟨w_361, List.forall_mem_cons.mpr ⟨w_125, List.forall_mem_cons.mpr ⟨w_359, List.forall_mem_cons.mpr ⟨w_55, fun _ h => absurd h List.not_mem_nil⟩⟩⟩⟩⟩, w_389, by decide +kernel, by decide +kernel⟩
theorem w_463 : (.methodLink "EndlessTug$Woman" 23 yX3_letsGo : Cond) ∈ ws0 := ws0_mem (List.mem_append_right _ (List.mem_append_right _ (List.mem_append_left _ (List.mem_of_getElem? (i := 171) rfl)))) rfl
theorem kX10_23 : LkSU "EndlessTug$Woman" 23 mX3_letsGo 2 := ⟨List.forall_mem_cons.mpr ⟨w_463, List.forall_mem_cons.mpr ⟨w_447, List.forall_mem_cons.mpr ⟨w_125, List.forall_mem_cons.mpr ⟨w_445, List.forall_mem_cons.mpr ⟨w_55, fun _ h => absurd h List.not_mem_nil⟩⟩⟩⟩⟩, w_464, by decide +kernel, by decide +kernel⟩
theorem w_76 : (.methodLink "EndlessTugLaw" 9 yX11_init : Cond) ∈ ws0 := ws0_mem (List.mem_append_right _ (List.mem_append_left _ (List.mem_of_getElem? (i := 24) rfl))) rfl
theorem w_77 : (.instanceMethod yX11_init : Cond) ∈ ws0 := ws0_mem (List.mem_append_right _ (List.mem_append_left _ (List.mem_of_getElem? (i := 25) rfl))) rfl
theorem w_78 : (cdW mX11_init : Cond) ∈ ws0 := ws0_mem (List.mem_append_right _ (List.mem_append_left _ (List.mem_of_getElem? (i := 26) rfl))) rfl
theorem kL_9 : LkI "EndlessTugLaw" 9 mX11_init 0 := ⟨List.forall_mem_cons.mpr ⟨w_76, List.forall_mem_cons.mpr ⟨w_77, List.forall_mem_cons.mpr ⟨w_53, fun _ h => absurd h List.not_mem_nil⟩⟩⟩, w_78, rfl, rfl, ⟨by decide +kernel, by decide +kernel, by decide +kernel⟩⟩
theorem w_862 : (.methodLink "EndlessTugLaw" 12 yX12_init : Cond) ∈ ws0 := ws0_mem (List.mem_append_right _ (List.mem_append_right _ (List.mem_append_right _ (List.mem_append_right _ (List.mem_append_left _ (List.mem_of_getElem? (i := 90) rfl)))))) rfl
theorem w_863 : (.instanceMethod yX12_init : Cond) ∈ ws0 := ws0_mem (List.mem_append_right _ (List.mem_append_right _ (List.mem_append_right _ (List.mem_append_right _ (List.mem_append_left _ (List.mem_of_getElem? (i := 91) rfl)))))) rfl
theorem w_65 : (.initialized "EndlessTugModel" : Cond) ∈ ws0 := ws0_mem (List.mem_append_right _ (List.mem_append_left _ (List.mem_of_getElem? (i := 13) rfl))) rfl
theorem w_864 : (cdW mX12_init : Cond) ∈ ws0 := ws0_mem (List.mem_append_right _ (List.mem_append_right _ (List.mem_append_right _ (List.mem_append_right _ (List.mem_append_left _ (List.mem_of_getElem? (i := 92) rfl)))))) rfl
theorem kL_12 : LkI "EndlessTugLaw" 12 mX12_init 0 := ⟨List.forall_mem_cons.mpr ⟨w_862, List.forall_mem_cons.mpr ⟨w_863, List.forall_mem_cons.mpr ⟨w_65, fun _ h => absurd h List.not_mem_nil⟩⟩⟩, w_864, rfl, rfl, ⟨by decide +kernel, by decide +kernel, by decide +kernel⟩⟩
theorem w_309 : (.methodLink "EndlessTugLaw" 13 yX11_slack : Cond) ∈ ws0 := ws0_mem (List.mem_append_right _ (List.mem_append_right _ (List.mem_append_left _ (List.mem_of_getElem? (i := 17) rfl)))) rfl
theorem w_310 : (.instanceMethod yX11_slack : Cond) ∈ ws0 := ws0_mem (List.mem_append_right _ (List.mem_append_right _ (List.mem_append_left _ (List.mem_of_getElem? (i := 18) rfl)))) rfl
theorem w_311 : (.selects "EndlessTug" yX11_slack yX11_slack : Cond) ∈ ws0 := ws0_mem (List.mem_append_right _ (List.mem_append_right _ (List.mem_append_left _ (List.mem_of_getElem? (i := 19) rfl)))) rfl
theorem w_312 : (cdW mX11_slack : Cond) ∈ ws0 := ws0_mem (List.mem_append_right _ (List.mem_append_right _ (List.mem_append_left _ (List.mem_of_getElem? (i := 20) rfl)))) rfl
theorem kL_13 : LkV "EndlessTugLaw" 13 mX11_slack 1 := ⟨List.forall_mem_cons.mpr ⟨w_309, List.forall_mem_cons.mpr ⟨w_310, List.forall_mem_cons.mpr ⟨w_311, List.forall_mem_cons.mpr ⟨w_53, fun _ h => absurd h List.not_mem_nil⟩⟩⟩⟩, w_312, ⟨by decide +kernel, by decide +kernel, by decide +kernel⟩⟩
theorem w_925 : (.methodLink "EndlessTugLaw" 17 yX12_slack : Cond) ∈ ws0 := ws0_mem (List.mem_append_right _ (List.mem_append_right _ (List.mem_append_right _ (List.mem_append_right _ (List.mem_append_left _ (List.mem_of_getElem? (i := 153) rfl)))))) rfl
theorem w_926 : (.instanceMethod yX12_slack : Cond) ∈ ws0 := ws0_mem (List.mem_append_right _ (List.mem_append_right _ (List.mem_append_right _ (List.mem_append_right _ (List.mem_append_left _ (List.mem_of_getElem? (i := 154) rfl)))))) rfl
theorem w_927 : (.selects "EndlessTugModel" yX12_slack yX12_slack : Cond) ∈ ws0 := ws0_mem (List.mem_append_right _ (List.mem_append_right _ (List.mem_append_right _ (List.mem_append_right _ (List.mem_append_left _ (List.mem_of_getElem? (i := 155) rfl)))))) rfl
theorem w_928 : (cdW mX12_slack : Cond) ∈ ws0 := ws0_mem (List.mem_append_right _ (List.mem_append_right _ (List.mem_append_right _ (List.mem_append_right _ (List.mem_append_left _ (List.mem_of_getElem? (i := 156) rfl)))))) rfl
theorem kL_17 : LkV "EndlessTugLaw" 17 mX12_slack 1 := ⟨List.forall_mem_cons.mpr ⟨w_925, List.forall_mem_cons.mpr ⟨w_926, List.forall_mem_cons.mpr ⟨w_927, List.forall_mem_cons.mpr ⟨w_65, fun _ h => absurd h List.not_mem_nil⟩⟩⟩⟩, w_928, ⟨by decide +kernel, by decide +kernel, by decide +kernel⟩⟩
theorem w_321 : (.methodLink "EndlessTugLaw" 18 yX11_harvest : Cond) ∈ ws0 := ws0_mem (List.mem_append_right _ (List.mem_append_right _ (List.mem_append_left _ (List.mem_of_getElem? (i := 29) rfl)))) rfl
theorem w_322 : (.instanceMethod yX11_harvest : Cond) ∈ ws0 := ws0_mem (List.mem_append_right _ (List.mem_append_right _ (List.mem_append_left _ (List.mem_of_getElem? (i := 30) rfl)))) rfl
theorem w_323 : (.selects "EndlessTug" yX11_harvest yX11_harvest : Cond) ∈ ws0 := ws0_mem (List.mem_append_right _ (List.mem_append_right _ (List.mem_append_left _ (List.mem_of_getElem? (i := 31) rfl)))) rfl
theorem w_324 : (cdW mX11_harvest : Cond) ∈ ws0 := ws0_mem (List.mem_append_right _ (List.mem_append_right _ (List.mem_append_left _ (List.mem_of_getElem? (i := 32) rfl)))) rfl
theorem kL_18 : LkV "EndlessTugLaw" 18 mX11_harvest 1 := ⟨List.forall_mem_cons.mpr ⟨w_321, List.forall_mem_cons.mpr ⟨w_322, List.forall_mem_cons.mpr ⟨w_323, List.forall_mem_cons.mpr ⟨w_53, fun _ h => absurd h List.not_mem_nil⟩⟩⟩⟩, w_324, ⟨by decide +kernel, by decide +kernel, by decide +kernel⟩⟩
theorem w_941 : (.methodLink "EndlessTugLaw" 21 yX12_harvest : Cond) ∈ ws0 := ws0_mem (List.mem_append_right _ (List.mem_append_right _ (List.mem_append_right _ (List.mem_append_right _ (List.mem_append_left _ (List.mem_of_getElem? (i := 169) rfl)))))) rfl
theorem w_942 : (.instanceMethod yX12_harvest : Cond) ∈ ws0 := ws0_mem (List.mem_append_right _ (List.mem_append_right _ (List.mem_append_right _ (List.mem_append_right _ (List.mem_append_left _ (List.mem_of_getElem? (i := 170) rfl)))))) rfl
theorem w_943 : (.selects "EndlessTugModel" yX12_harvest yX12_harvest : Cond) ∈ ws0 := ws0_mem (List.mem_append_right _ (List.mem_append_right _ (List.mem_append_right _ (List.mem_append_right _ (List.mem_append_left _ (List.mem_of_getElem? (i := 171) rfl)))))) rfl
theorem w_944 : (cdW mX12_harvest : Cond) ∈ ws0 := ws0_mem (List.mem_append_right _ (List.mem_append_right _ (List.mem_append_right _ (List.mem_append_right _ (List.mem_append_left _ (List.mem_of_getElem? (i := 172) rfl)))))) rfl
theorem kL_21 : LkV "EndlessTugLaw" 21 mX12_harvest 1 := ⟨List.forall_mem_cons.mpr ⟨w_941, List.forall_mem_cons.mpr ⟨w_942, List.forall_mem_cons.mpr ⟨w_943, List.forall_mem_cons.mpr ⟨w_65, fun _ h => absurd h List.not_mem_nil⟩⟩⟩⟩, w_944, ⟨by decide +kernel, by decide +kernel, by decide +kernel⟩⟩
theorem w_325 : (.methodLink "EndlessTugLaw" 22 yX11_knot : Cond) ∈ ws0 := ws0_mem (List.mem_append_right _ (List.mem_append_right _ (List.mem_append_left _ (List.mem_of_getElem? (i := 33) rfl)))) rfl
theorem w_326 : (.instanceMethod yX11_knot : Cond) ∈ ws0 := ws0_mem (List.mem_append_right _ (List.mem_append_right _ (List.mem_append_left _ (List.mem_of_getElem? (i := 34) rfl)))) rfl
theorem w_327 : (.selects "EndlessTug" yX11_knot yX11_knot : Cond) ∈ ws0 := ws0_mem (List.mem_append_right _ (List.mem_append_right _ (List.mem_append_left _ (List.mem_of_getElem? (i := 35) rfl)))) rfl
theorem w_328 : (cdW mX11_knot : Cond) ∈ ws0 := ws0_mem (List.mem_append_right _ (List.mem_append_right _ (List.mem_append_left _ (List.mem_of_getElem? (i := 36) rfl)))) rfl
theorem kL_22 : LkV "EndlessTugLaw" 22 mX11_knot 1 := ⟨List.forall_mem_cons.mpr ⟨w_325, List.forall_mem_cons.mpr ⟨w_326, List.forall_mem_cons.mpr ⟨w_327, List.forall_mem_cons.mpr ⟨w_53, fun _ h => absurd h List.not_mem_nil⟩⟩⟩⟩, w_328, ⟨by decide +kernel, by decide +kernel, by decide +kernel⟩⟩
theorem w_945 : (.methodLink "EndlessTugLaw" 25 yX12_knot : Cond) ∈ ws0 := ws0_mem (List.mem_append_right _ (List.mem_append_right _ (List.mem_append_right _ (List.mem_append_right _ (List.mem_append_left _ (List.mem_of_getElem? (i := 173) rfl)))))) rfl
theorem w_946 : (.instanceMethod yX12_knot : Cond) ∈ ws0 := ws0_mem (List.mem_append_right _ (List.mem_append_right _ (List.mem_append_right _ (List.mem_append_right _ (List.mem_append_left _ (List.mem_of_getElem? (i := 174) rfl)))))) rfl
theorem w_947 : (.selects "EndlessTugModel" yX12_knot yX12_knot : Cond) ∈ ws0 := ws0_mem (List.mem_append_right _ (List.mem_append_right _ (List.mem_append_right _ (List.mem_append_right _ (List.mem_append_left _ (List.mem_of_getElem? (i := 175) rfl)))))) rfl
theorem w_948 : (cdW mX12_knot : Cond) ∈ ws0 := ws0_mem (List.mem_append_right _ (List.mem_append_right _ (List.mem_append_right _ (List.mem_append_right _ (List.mem_append_left _ (List.mem_of_getElem? (i := 176) rfl)))))) rfl
theorem kL_25 : LkV "EndlessTugLaw" 25 mX12_knot 1 := ⟨List.forall_mem_cons.mpr ⟨w_945, List.forall_mem_cons.mpr ⟨w_946, List.forall_mem_cons.mpr ⟨w_947, List.forall_mem_cons.mpr ⟨w_65, fun _ h => absurd h List.not_mem_nil⟩⟩⟩⟩, w_948, ⟨by decide +kernel, by decide +kernel, by decide +kernel⟩⟩
theorem w_329 : (.methodLink "EndlessTugLaw" 26 yX11_now : Cond) ∈ ws0 := ws0_mem (List.mem_append_right _ (List.mem_append_right _ (List.mem_append_left _ (List.mem_of_getElem? (i := 37) rfl)))) rfl
theorem w_330 : (.instanceMethod yX11_now : Cond) ∈ ws0 := ws0_mem (List.mem_append_right _ (List.mem_append_right _ (List.mem_append_left _ (List.mem_of_getElem? (i := 38) rfl)))) rfl
theorem w_331 : (.selects "EndlessTug" yX11_now yX11_now : Cond) ∈ ws0 := ws0_mem (List.mem_append_right _ (List.mem_append_right _ (List.mem_append_left _ (List.mem_of_getElem? (i := 39) rfl)))) rfl
theorem w_332 : (cdW mX11_now : Cond) ∈ ws0 := ws0_mem (List.mem_append_right _ (List.mem_append_right _ (List.mem_append_left _ (List.mem_of_getElem? (i := 40) rfl)))) rfl
theorem kL_26 : LkV "EndlessTugLaw" 26 mX11_now 1 := ⟨List.forall_mem_cons.mpr ⟨w_329, List.forall_mem_cons.mpr ⟨w_330, List.forall_mem_cons.mpr ⟨w_331, List.forall_mem_cons.mpr ⟨w_53, fun _ h => absurd h List.not_mem_nil⟩⟩⟩⟩, w_332, ⟨by decide +kernel, by decide +kernel, by decide +kernel⟩⟩
theorem w_952 : (.methodLink "EndlessTugLaw" 29 yX12_now : Cond) ∈ ws0 := ws0_mem (List.mem_append_right _ (List.mem_append_right _ (List.mem_append_right _ (List.mem_append_right _ (List.mem_append_left _ (List.mem_of_getElem? (i := 180) rfl)))))) rfl
theorem w_953 : (.instanceMethod yX12_now : Cond) ∈ ws0 := ws0_mem (List.mem_append_right _ (List.mem_append_right _ (List.mem_append_right _ (List.mem_append_right _ (List.mem_append_left _ (List.mem_of_getElem? (i := 181) rfl)))))) rfl
theorem w_954 : (.selects "EndlessTugModel" yX12_now yX12_now : Cond) ∈ ws0 := ws0_mem (List.mem_append_right _ (List.mem_append_right _ (List.mem_append_right _ (List.mem_append_right _ (List.mem_append_left _ (List.mem_of_getElem? (i := 182) rfl)))))) rfl
theorem w_955 : (cdW mX12_now : Cond) ∈ ws0 := ws0_mem (List.mem_append_right _ (List.mem_append_right _ (List.mem_append_right _ (List.mem_append_right _ (List.mem_append_left _ (List.mem_of_getElem? (i := 183) rfl)))))) rfl
theorem kL_29 : LkV "EndlessTugLaw" 29 mX12_now 1 := ⟨List.forall_mem_cons.mpr ⟨w_952, List.forall_mem_cons.mpr ⟨w_953, List.forall_mem_cons.mpr ⟨w_954, List.forall_mem_cons.mpr ⟨w_65, fun _ h => absurd h List.not_mem_nil⟩⟩⟩⟩, w_955, ⟨by decide +kernel, by decide +kernel, by decide +kernel⟩⟩
theorem w_390 : (.methodLink "EndlessTugLaw" 30 yX11_person : Cond) ∈ ws0 := ws0_mem (List.mem_append_right _ (List.mem_append_right _ (List.mem_append_left _ (List.mem_of_getElem? (i := 98) rfl)))) rfl
theorem w_391 : (.instanceMethod yX11_person : Cond) ∈ ws0 := ws0_mem (List.mem_append_right _ (List.mem_append_right _ (List.mem_append_left _ (List.mem_of_getElem? (i := 99) rfl)))) rfl
theorem w_392 : (.selects "EndlessTug" yX11_person yX11_person : Cond) ∈ ws0 := ws0_mem (List.mem_append_right _ (List.mem_append_right _ (List.mem_append_left _ (List.mem_of_getElem? (i := 100) rfl)))) rfl
theorem w_393 : (cdW mX11_person : Cond) ∈ ws0 := ws0_mem (List.mem_append_right _ (List.mem_append_right _ (List.mem_append_left _ (List.mem_of_getElem? (i := 101) rfl)))) rfl
theorem kL_30 : LkV "EndlessTugLaw" 30 mX11_person 2 := ⟨List.forall_mem_cons.mpr ⟨w_390, List.forall_mem_cons.mpr ⟨w_391, List.forall_mem_cons.mpr ⟨w_392, List.forall_mem_cons.mpr ⟨w_53, fun _ h => absurd h List.not_mem_nil⟩⟩⟩⟩, w_393, ⟨by decide +kernel, by decide +kernel, by decide +kernel⟩⟩
theorem w_988 : (.methodLink "EndlessTugLaw" 34 yX12_person : Cond) ∈ ws0 := ws0_mem (List.mem_append_right _ (List.mem_append_right _ (List.mem_append_right _ (List.mem_append_right _ (List.mem_append_left _ (List.mem_of_getElem? (i := 216) rfl)))))) rfl
theorem w_989 : (.instanceMethod yX12_person : Cond) ∈ ws0 := ws0_mem (List.mem_append_right _ (List.mem_append_right _ (List.mem_append_right _ (List.mem_append_right _ (List.mem_append_left _ (List.mem_of_getElem? (i := 217) rfl)))))) rfl
theorem w_990 : (.selects "EndlessTugModel" yX12_person yX12_person : Cond) ∈ ws0 := ws0_mem (List.mem_append_right _ (List.mem_append_right _ (List.mem_append_right _ (List.mem_append_right _ (List.mem_append_left _ (List.mem_of_getElem? (i := 218) rfl)))))) rfl
theorem w_991 : (cdW mX12_person : Cond) ∈ ws0 := ws0_mem (List.mem_append_right _ (List.mem_append_right _ (List.mem_append_right _ (List.mem_append_right _ (List.mem_append_left _ (List.mem_of_getElem? (i := 219) rfl)))))) rfl
theorem kL_34 : LkV "EndlessTugLaw" 34 mX12_person 2 := ⟨List.forall_mem_cons.mpr ⟨w_988, List.forall_mem_cons.mpr ⟨w_989, List.forall_mem_cons.mpr ⟨w_990, List.forall_mem_cons.mpr ⟨w_65, fun _ h => absurd h List.not_mem_nil⟩⟩⟩⟩, w_991, ⟨by decide +kernel, by decide +kernel, by decide +kernel⟩⟩
theorem w_411 : (.methodLink "EndlessTugLaw" 35 yX11_of : Cond) ∈ ws0 := ws0_mem (List.mem_append_right _ (List.mem_append_right _ (List.mem_append_left _ (List.mem_of_getElem? (i := 119) rfl)))) rfl
theorem w_412 : (.instanceMethod yX11_of : Cond) ∈ ws0 := ws0_mem (List.mem_append_right _ (List.mem_append_right _ (List.mem_append_left _ (List.mem_of_getElem? (i := 120) rfl)))) rfl
theorem w_413 : (.selects "EndlessTug" yX11_of yX11_of : Cond) ∈ ws0 := ws0_mem (List.mem_append_right _ (List.mem_append_right _ (List.mem_append_left _ (List.mem_of_getElem? (i := 121) rfl)))) rfl
theorem w_414 : (cdW mX11_of : Cond) ∈ ws0 := ws0_mem (List.mem_append_right _ (List.mem_append_right _ (List.mem_append_left _ (List.mem_of_getElem? (i := 122) rfl)))) rfl
theorem kL_35 : LkV "EndlessTugLaw" 35 mX11_of 2 := ⟨List.forall_mem_cons.mpr ⟨w_411, List.forall_mem_cons.mpr ⟨w_412, List.forall_mem_cons.mpr ⟨w_413, List.forall_mem_cons.mpr ⟨w_53, fun _ h => absurd h List.not_mem_nil⟩⟩⟩⟩, w_414, ⟨by decide +kernel, by decide +kernel, by decide +kernel⟩⟩
theorem w_1003 : (.methodLink "EndlessTugLaw" 38 yX12_of : Cond) ∈ ws0 := ws0_mem (List.mem_append_right _ (List.mem_append_right _ (List.mem_append_right _ (List.mem_append_right _ (List.mem_append_left _ (List.mem_of_getElem? (i := 231) rfl)))))) rfl
theorem w_1004 : (.instanceMethod yX12_of : Cond) ∈ ws0 := ws0_mem (List.mem_append_right _ (List.mem_append_right _ (List.mem_append_right _ (List.mem_append_right _ (List.mem_append_left _ (List.mem_of_getElem? (i := 232) rfl)))))) rfl
theorem w_1005 : (.selects "EndlessTugModel" yX12_of yX12_of : Cond) ∈ ws0 := ws0_mem (List.mem_append_right _ (List.mem_append_right _ (List.mem_append_right _ (List.mem_append_right _ (List.mem_append_left _ (List.mem_of_getElem? (i := 233) rfl)))))) rfl
theorem w_1006 : (cdW mX12_of : Cond) ∈ ws0 := ws0_mem (List.mem_append_right _ (List.mem_append_right _ (List.mem_append_right _ (List.mem_append_right _ (List.mem_append_left _ (List.mem_of_getElem? (i := 234) rfl)))))) rfl
theorem kL_38 : LkV "EndlessTugLaw" 38 mX12_of 2 := ⟨List.forall_mem_cons.mpr ⟨w_1003, List.forall_mem_cons.mpr ⟨w_1004, List.forall_mem_cons.mpr ⟨w_1005, List.forall_mem_cons.mpr ⟨w_65, fun _ h => absurd h List.not_mem_nil⟩⟩⟩⟩, w_1006, ⟨by decide +kernel, by decide +kernel, by decide +kernel⟩⟩
theorem w_465 : (.methodLink "EndlessTugLaw" 39 yX11_set : Cond) ∈ ws0 := ws0_mem (List.mem_append_right _ (List.mem_append_right _ (List.mem_append_left _ (List.mem_of_getElem? (i := 173) rfl)))) rfl
theorem w_466 : (.instanceMethod yX11_set : Cond) ∈ ws0 := ws0_mem (List.mem_append_right _ (List.mem_append_right _ (List.mem_append_left _ (List.mem_of_getElem? (i := 174) rfl)))) rfl
theorem w_467 : (.selects "EndlessTug" yX11_set yX11_set : Cond) ∈ ws0 := ws0_mem (List.mem_append_right _ (List.mem_append_right _ (List.mem_append_left _ (List.mem_of_getElem? (i := 175) rfl)))) rfl
theorem w_468 : (cdW mX11_set : Cond) ∈ ws0 := ws0_mem (List.mem_append_right _ (List.mem_append_right _ (List.mem_append_left _ (List.mem_of_getElem? (i := 176) rfl)))) rfl
theorem kL_39 : LkV "EndlessTugLaw" 39 mX11_set 3 := ⟨List.forall_mem_cons.mpr ⟨w_465, List.forall_mem_cons.mpr ⟨w_466, List.forall_mem_cons.mpr ⟨w_467, List.forall_mem_cons.mpr ⟨w_53, fun _ h => absurd h List.not_mem_nil⟩⟩⟩⟩, w_468, ⟨by decide +kernel, by decide +kernel, by decide +kernel⟩⟩
theorem w_1019 : (.methodLink "EndlessTugLaw" 43 yX12_set : Cond) ∈ ws0 := ws0_mem (List.mem_append_right _ (List.mem_append_right _ (List.mem_append_right _ (List.mem_append_right _ (List.mem_append_right _ (List.mem_append_left _ (List.mem_of_getElem? (i := 7) rfl))))))) rfl
theorem w_1020 : (.instanceMethod yX12_set : Cond) ∈ ws0 := ws0_mem (List.mem_append_right _ (List.mem_append_right _ (List.mem_append_right _ (List.mem_append_right _ (List.mem_append_right _ (List.mem_append_left _ (List.mem_of_getElem? (i := 8) rfl))))))) rfl
theorem w_1021 : (.selects "EndlessTugModel" yX12_set yX12_set : Cond) ∈ ws0 := ws0_mem (List.mem_append_right _ (List.mem_append_right _ (List.mem_append_right _ (List.mem_append_right _ (List.mem_append_right _ (List.mem_append_left _ (List.mem_of_getElem? (i := 9) rfl))))))) rfl
theorem w_1022 : (cdW mX12_set : Cond) ∈ ws0 := ws0_mem (List.mem_append_right _ (List.mem_append_right _ (List.mem_append_right _ (List.mem_append_right _ (List.mem_append_right _ (List.mem_append_left _ (List.mem_of_getElem? (i := 10) rfl))))))) rfl
theorem kL_43 : LkV "EndlessTugLaw" 43 mX12_set 3 := ⟨List.forall_mem_cons.mpr ⟨w_1019, List.forall_mem_cons.mpr ⟨w_1020, List.forall_mem_cons.mpr ⟨w_1021, List.forall_mem_cons.mpr ⟨w_65, fun _ h => absurd h List.not_mem_nil⟩⟩⟩⟩, w_1022, ⟨by decide +kernel, by decide +kernel, by decide +kernel⟩⟩
theorem w_469 : (.methodLink "EndlessTugLaw" 44 yX11_turn : Cond) ∈ ws0 := ws0_mem (List.mem_append_right _ (List.mem_append_right _ (List.mem_append_left _ (List.mem_of_getElem? (i := 177) rfl)))) rfl
theorem w_470 : (.instanceMethod yX11_turn : Cond) ∈ ws0 := ws0_mem (List.mem_append_right _ (List.mem_append_right _ (List.mem_append_left _ (List.mem_of_getElem? (i := 178) rfl)))) rfl
theorem w_471 : (.selects "EndlessTug" yX11_turn yX11_turn : Cond) ∈ ws0 := ws0_mem (List.mem_append_right _ (List.mem_append_right _ (List.mem_append_left _ (List.mem_of_getElem? (i := 179) rfl)))) rfl
theorem w_472 : (cdW mX11_turn : Cond) ∈ ws0 := ws0_mem (List.mem_append_right _ (List.mem_append_right _ (List.mem_append_left _ (List.mem_of_getElem? (i := 180) rfl)))) rfl
theorem kL_44 : LkV "EndlessTugLaw" 44 mX11_turn 2 := ⟨List.forall_mem_cons.mpr ⟨w_469, List.forall_mem_cons.mpr ⟨w_470, List.forall_mem_cons.mpr ⟨w_471, List.forall_mem_cons.mpr ⟨w_53, fun _ h => absurd h List.not_mem_nil⟩⟩⟩⟩, w_472, ⟨by decide +kernel, by decide +kernel, by decide +kernel⟩⟩
theorem w_1023 : (.methodLink "EndlessTugLaw" 47 yX12_turn : Cond) ∈ ws0 := ws0_mem (List.mem_append_right _ (List.mem_append_right _ (List.mem_append_right _ (List.mem_append_right _ (List.mem_append_right _ (List.mem_append_left _ (List.mem_of_getElem? (i := 11) rfl))))))) rfl
theorem w_1024 : (.instanceMethod yX12_turn : Cond) ∈ ws0 := ws0_mem (List.mem_append_right _ (List.mem_append_right _ (List.mem_append_right _ (List.mem_append_right _ (List.mem_append_right _ (List.mem_append_left _ (List.mem_of_getElem? (i := 12) rfl))))))) rfl
theorem w_1025 : (.selects "EndlessTugModel" yX12_turn yX12_turn : Cond) ∈ ws0 := ws0_mem (List.mem_append_right _ (List.mem_append_right _ (List.mem_append_right _ (List.mem_append_right _ (List.mem_append_right _ (List.mem_append_left _ (List.mem_of_getElem? (i := 13) rfl))))))) rfl
theorem w_1026 : (cdW mX12_turn : Cond) ∈ ws0 := ws0_mem (List.mem_append_right _ (List.mem_append_right _ (List.mem_append_right _ (List.mem_append_right _ (List.mem_append_right _ (List.mem_append_left _ (List.mem_of_getElem? (i := 14) rfl))))))) rfl
theorem kL_47 : LkV "EndlessTugLaw" 47 mX12_turn 2 := ⟨List.forall_mem_cons.mpr ⟨w_1023, List.forall_mem_cons.mpr ⟨w_1024, List.forall_mem_cons.mpr ⟨w_1025, List.forall_mem_cons.mpr ⟨w_65, fun _ h => absurd h List.not_mem_nil⟩⟩⟩⟩, w_1026, ⟨by decide +kernel, by decide +kernel, by decide +kernel⟩⟩
theorem w_473 : (.methodLink "EndlessTugLaw" 48 yX11_as : Cond) ∈ ws0 := ws0_mem (List.mem_append_right _ (List.mem_append_right _ (List.mem_append_left _ (List.mem_of_getElem? (i := 181) rfl)))) rfl
theorem w_474 : (.instanceMethod yX11_as : Cond) ∈ ws0 := ws0_mem (List.mem_append_right _ (List.mem_append_right _ (List.mem_append_left _ (List.mem_of_getElem? (i := 182) rfl)))) rfl
theorem w_475 : (.selects "EndlessTug" yX11_as yX11_as : Cond) ∈ ws0 := ws0_mem (List.mem_append_right _ (List.mem_append_right _ (List.mem_append_left _ (List.mem_of_getElem? (i := 183) rfl)))) rfl
theorem w_476 : (cdW mX11_as : Cond) ∈ ws0 := ws0_mem (List.mem_append_right _ (List.mem_append_right _ (List.mem_append_left _ (List.mem_of_getElem? (i := 184) rfl)))) rfl
theorem kL_48 : LkV "EndlessTugLaw" 48 mX11_as 2 := ⟨List.forall_mem_cons.mpr ⟨w_473, List.forall_mem_cons.mpr ⟨w_474, List.forall_mem_cons.mpr ⟨w_475, List.forall_mem_cons.mpr ⟨w_53, fun _ h => absurd h List.not_mem_nil⟩⟩⟩⟩, w_476, ⟨by decide +kernel, by decide +kernel, by decide +kernel⟩⟩
theorem w_1027 : (.methodLink "EndlessTugLaw" 51 yX12_as : Cond) ∈ ws0 := ws0_mem (List.mem_append_right _ (List.mem_append_right _ (List.mem_append_right _ (List.mem_append_right _ (List.mem_append_right _ (List.mem_append_left _ (List.mem_of_getElem? (i := 15) rfl))))))) rfl
theorem w_1028 : (.instanceMethod yX12_as : Cond) ∈ ws0 := ws0_mem (List.mem_append_right _ (List.mem_append_right _ (List.mem_append_right _ (List.mem_append_right _ (List.mem_append_right _ (List.mem_append_left _ (List.mem_of_getElem? (i := 16) rfl))))))) rfl
theorem w_1029 : (.selects "EndlessTugModel" yX12_as yX12_as : Cond) ∈ ws0 := ws0_mem (List.mem_append_right _ (List.mem_append_right _ (List.mem_append_right _ (List.mem_append_right _ (List.mem_append_right _ (List.mem_append_left _ (List.mem_of_getElem? (i := 17) rfl))))))) rfl
theorem w_1030 : (cdW mX12_as : Cond) ∈ ws0 := ws0_mem (List.mem_append_right _ (List.mem_append_right _ (List.mem_append_right _ (List.mem_append_right _ (List.mem_append_right _ (List.mem_append_left _ (List.mem_of_getElem? (i := 18) rfl))))))) rfl
theorem kL_51 : LkV "EndlessTugLaw" 51 mX12_as 2 := ⟨List.forall_mem_cons.mpr ⟨w_1027, List.forall_mem_cons.mpr ⟨w_1028, List.forall_mem_cons.mpr ⟨w_1029, List.forall_mem_cons.mpr ⟨w_65, fun _ h => absurd h List.not_mem_nil⟩⟩⟩⟩, w_1030, ⟨by decide +kernel, by decide +kernel, by decide +kernel⟩⟩
theorem w_503 : (.methodLink "EndlessTugLaw" 52 yX11_relieve : Cond) ∈ ws0 := ws0_mem (List.mem_append_right _ (List.mem_append_right _ (List.mem_append_left _ (List.mem_of_getElem? (i := 211) rfl)))) rfl
theorem w_504 : (.instanceMethod yX11_relieve : Cond) ∈ ws0 := ws0_mem (List.mem_append_right _ (List.mem_append_right _ (List.mem_append_left _ (List.mem_of_getElem? (i := 212) rfl)))) rfl
theorem w_505 : (.selects "EndlessTug" yX11_relieve yX11_relieve : Cond) ∈ ws0 := ws0_mem (List.mem_append_right _ (List.mem_append_right _ (List.mem_append_left _ (List.mem_of_getElem? (i := 213) rfl)))) rfl
theorem w_506 : (cdW mX11_relieve : Cond) ∈ ws0 := ws0_mem (List.mem_append_right _ (List.mem_append_right _ (List.mem_append_left _ (List.mem_of_getElem? (i := 214) rfl)))) rfl
theorem kL_52 : LkV "EndlessTugLaw" 52 mX11_relieve 2 := ⟨List.forall_mem_cons.mpr ⟨w_503, List.forall_mem_cons.mpr ⟨w_504, List.forall_mem_cons.mpr ⟨w_505, List.forall_mem_cons.mpr ⟨w_53, fun _ h => absurd h List.not_mem_nil⟩⟩⟩⟩, w_506, ⟨by decide +kernel, by decide +kernel, by decide +kernel⟩⟩
theorem w_1031 : (.methodLink "EndlessTugLaw" 55 yX12_relieve : Cond) ∈ ws0 := ws0_mem (List.mem_append_right _ (List.mem_append_right _ (List.mem_append_right _ (List.mem_append_right _ (List.mem_append_right _ (List.mem_append_left _ (List.mem_of_getElem? (i := 19) rfl))))))) rfl
theorem w_1032 : (.instanceMethod yX12_relieve : Cond) ∈ ws0 := ws0_mem (List.mem_append_right _ (List.mem_append_right _ (List.mem_append_right _ (List.mem_append_right _ (List.mem_append_right _ (List.mem_append_left _ (List.mem_of_getElem? (i := 20) rfl))))))) rfl
theorem w_1033 : (.selects "EndlessTugModel" yX12_relieve yX12_relieve : Cond) ∈ ws0 := ws0_mem (List.mem_append_right _ (List.mem_append_right _ (List.mem_append_right _ (List.mem_append_right _ (List.mem_append_right _ (List.mem_append_left _ (List.mem_of_getElem? (i := 21) rfl))))))) rfl
theorem w_1034 : (cdW mX12_relieve : Cond) ∈ ws0 := ws0_mem (List.mem_append_right _ (List.mem_append_right _ (List.mem_append_right _ (List.mem_append_right _ (List.mem_append_right _ (List.mem_append_left _ (List.mem_of_getElem? (i := 22) rfl))))))) rfl
theorem kL_55 : LkV "EndlessTugLaw" 55 mX12_relieve 2 := ⟨List.forall_mem_cons.mpr ⟨w_1031, List.forall_mem_cons.mpr ⟨w_1032, List.forall_mem_cons.mpr ⟨w_1033, List.forall_mem_cons.mpr ⟨w_65, fun _ h => absurd h List.not_mem_nil⟩⟩⟩⟩, w_1034, ⟨by decide +kernel, by decide +kernel, by decide +kernel⟩⟩
theorem w_518 : (.methodLink "EndlessTugLaw" 56 yX11_days : Cond) ∈ ws0 := ws0_mem (List.mem_append_right _ (List.mem_append_right _ (List.mem_append_left _ (List.mem_of_getElem? (i := 226) rfl)))) rfl
theorem w_519 : (.instanceMethod yX11_days : Cond) ∈ ws0 := ws0_mem (List.mem_append_right _ (List.mem_append_right _ (List.mem_append_left _ (List.mem_of_getElem? (i := 227) rfl)))) rfl
theorem w_520 : (.selects "EndlessTug" yX11_days yX11_days : Cond) ∈ ws0 := ws0_mem (List.mem_append_right _ (List.mem_append_right _ (List.mem_append_left _ (List.mem_of_getElem? (i := 228) rfl)))) rfl
theorem w_521 : (cdW mX11_days : Cond) ∈ ws0 := ws0_mem (List.mem_append_right _ (List.mem_append_right _ (List.mem_append_left _ (List.mem_of_getElem? (i := 229) rfl)))) rfl
theorem kL_56 : LkV "EndlessTugLaw" 56 mX11_days 1 := ⟨List.forall_mem_cons.mpr ⟨w_518, List.forall_mem_cons.mpr ⟨w_519, List.forall_mem_cons.mpr ⟨w_520, List.forall_mem_cons.mpr ⟨w_53, fun _ h => absurd h List.not_mem_nil⟩⟩⟩⟩, w_521, ⟨by decide +kernel, by decide +kernel, by decide +kernel⟩⟩
theorem w_1043 : (.methodLink "EndlessTugLaw" 59 yX12_days : Cond) ∈ ws0 := ws0_mem (List.mem_append_right _ (List.mem_append_right _ (List.mem_append_right _ (List.mem_append_right _ (List.mem_append_right _ (List.mem_append_left _ (List.mem_of_getElem? (i := 31) rfl))))))) rfl
theorem w_1044 : (.instanceMethod yX12_days : Cond) ∈ ws0 := ws0_mem (List.mem_append_right _ (List.mem_append_right _ (List.mem_append_right _ (List.mem_append_right _ (List.mem_append_right _ (List.mem_append_left _ (List.mem_of_getElem? (i := 32) rfl))))))) rfl
theorem w_1045 : (.selects "EndlessTugModel" yX12_days yX12_days : Cond) ∈ ws0 := ws0_mem (List.mem_append_right _ (List.mem_append_right _ (List.mem_append_right _ (List.mem_append_right _ (List.mem_append_right _ (List.mem_append_left _ (List.mem_of_getElem? (i := 33) rfl))))))) rfl
theorem w_1046 : (cdW mX12_days : Cond) ∈ ws0 := ws0_mem (List.mem_append_right _ (List.mem_append_right _ (List.mem_append_right _ (List.mem_append_right _ (List.mem_append_right _ (List.mem_append_left _ (List.mem_of_getElem? (i := 34) rfl))))))) rfl
theorem kL_59 : LkV "EndlessTugLaw" 59 mX12_days 1 := ⟨List.forall_mem_cons.mpr ⟨w_1043, List.forall_mem_cons.mpr ⟨w_1044, List.forall_mem_cons.mpr ⟨w_1045, List.forall_mem_cons.mpr ⟨w_65, fun _ h => absurd h List.not_mem_nil⟩⟩⟩⟩, w_1046, ⟨by decide +kernel, by decide +kernel, by decide +kernel⟩⟩
theorem w_555 : (.methodLink "EndlessTugLaw" 60 yX11_on : Cond) ∈ ws0 := ws0_mem (List.mem_append_right _ (List.mem_append_right _ (List.mem_append_right _ (List.mem_append_left _ (List.mem_of_getElem? (i := 23) rfl))))) rfl
theorem w_556 : (.instanceMethod yX11_on : Cond) ∈ ws0 := ws0_mem (List.mem_append_right _ (List.mem_append_right _ (List.mem_append_right _ (List.mem_append_left _ (List.mem_of_getElem? (i := 24) rfl))))) rfl
theorem w_557 : (.selects "EndlessTug" yX11_on yX11_on : Cond) ∈ ws0 := ws0_mem (List.mem_append_right _ (List.mem_append_right _ (List.mem_append_right _ (List.mem_append_left _ (List.mem_of_getElem? (i := 25) rfl))))) rfl
theorem w_558 : (cdW mX11_on : Cond) ∈ ws0 := ws0_mem (List.mem_append_right _ (List.mem_append_right _ (List.mem_append_right _ (List.mem_append_left _ (List.mem_of_getElem? (i := 26) rfl))))) rfl
theorem kL_60 : LkV "EndlessTugLaw" 60 mX11_on 2 := ⟨List.forall_mem_cons.mpr ⟨w_555, List.forall_mem_cons.mpr ⟨w_556, List.forall_mem_cons.mpr ⟨w_557, List.forall_mem_cons.mpr ⟨w_53, fun _ h => absurd h List.not_mem_nil⟩⟩⟩⟩, w_558, ⟨by decide +kernel, by decide +kernel, by decide +kernel⟩⟩
theorem w_1067 : (.methodLink "EndlessTugLaw" 63 yX12_on : Cond) ∈ ws0 := ws0_mem (List.mem_append_right _ (List.mem_append_right _ (List.mem_append_right _ (List.mem_append_right _ (List.mem_append_right _ (List.mem_append_left _ (List.mem_of_getElem? (i := 55) rfl))))))) rfl
theorem w_1068 : (.instanceMethod yX12_on : Cond) ∈ ws0 := ws0_mem (List.mem_append_right _ (List.mem_append_right _ (List.mem_append_right _ (List.mem_append_right _ (List.mem_append_right _ (List.mem_append_left _ (List.mem_of_getElem? (i := 56) rfl))))))) rfl
theorem w_1069 : (.selects "EndlessTugModel" yX12_on yX12_on : Cond) ∈ ws0 := ws0_mem (List.mem_append_right _ (List.mem_append_right _ (List.mem_append_right _ (List.mem_append_right _ (List.mem_append_right _ (List.mem_append_left _ (List.mem_of_getElem? (i := 57) rfl))))))) rfl
theorem w_1070 : (cdW mX12_on : Cond) ∈ ws0 := ws0_mem (List.mem_append_right _ (List.mem_append_right _ (List.mem_append_right _ (List.mem_append_right _ (List.mem_append_right _ (List.mem_append_left _ (List.mem_of_getElem? (i := 58) rfl))))))) rfl
theorem kL_63 : LkV "EndlessTugLaw" 63 mX12_on 2 := ⟨List.forall_mem_cons.mpr ⟨w_1067, List.forall_mem_cons.mpr ⟨w_1068, List.forall_mem_cons.mpr ⟨w_1069, List.forall_mem_cons.mpr ⟨w_65, fun _ h => absurd h List.not_mem_nil⟩⟩⟩⟩, w_1070, ⟨by decide +kernel, by decide +kernel, by decide +kernel⟩⟩
theorem w_567 : (.methodLink "EndlessTugLaw" 64 yX11_then : Cond) ∈ ws0 := ws0_mem (List.mem_append_right _ (List.mem_append_right _ (List.mem_append_right _ (List.mem_append_left _ (List.mem_of_getElem? (i := 35) rfl))))) rfl
theorem w_568 : (.instanceMethod yX11_then : Cond) ∈ ws0 := ws0_mem (List.mem_append_right _ (List.mem_append_right _ (List.mem_append_right _ (List.mem_append_left _ (List.mem_of_getElem? (i := 36) rfl))))) rfl
theorem w_569 : (.selects "EndlessTug" yX11_then yX11_then : Cond) ∈ ws0 := ws0_mem (List.mem_append_right _ (List.mem_append_right _ (List.mem_append_right _ (List.mem_append_left _ (List.mem_of_getElem? (i := 37) rfl))))) rfl
theorem w_570 : (cdW mX11_then : Cond) ∈ ws0 := ws0_mem (List.mem_append_right _ (List.mem_append_right _ (List.mem_append_right _ (List.mem_append_left _ (List.mem_of_getElem? (i := 38) rfl))))) rfl
theorem kL_64 : LkV "EndlessTugLaw" 64 mX11_then 3 := ⟨List.forall_mem_cons.mpr ⟨w_567, List.forall_mem_cons.mpr ⟨w_568, List.forall_mem_cons.mpr ⟨w_569, List.forall_mem_cons.mpr ⟨w_53, fun _ h => absurd h List.not_mem_nil⟩⟩⟩⟩, w_570, ⟨by decide +kernel, by decide +kernel, by decide +kernel⟩⟩
theorem w_1079 : (.methodLink "EndlessTugLaw" 67 yX12_then : Cond) ∈ ws0 := ws0_mem (List.mem_append_right _ (List.mem_append_right _ (List.mem_append_right _ (List.mem_append_right _ (List.mem_append_right _ (List.mem_append_left _ (List.mem_of_getElem? (i := 67) rfl))))))) rfl
theorem w_1080 : (.instanceMethod yX12_then : Cond) ∈ ws0 := ws0_mem (List.mem_append_right _ (List.mem_append_right _ (List.mem_append_right _ (List.mem_append_right _ (List.mem_append_right _ (List.mem_append_left _ (List.mem_of_getElem? (i := 68) rfl))))))) rfl
theorem w_1081 : (.selects "EndlessTugModel" yX12_then yX12_then : Cond) ∈ ws0 := ws0_mem (List.mem_append_right _ (List.mem_append_right _ (List.mem_append_right _ (List.mem_append_right _ (List.mem_append_right _ (List.mem_append_left _ (List.mem_of_getElem? (i := 69) rfl))))))) rfl
theorem w_1082 : (cdW mX12_then : Cond) ∈ ws0 := ws0_mem (List.mem_append_right _ (List.mem_append_right _ (List.mem_append_right _ (List.mem_append_right _ (List.mem_append_right _ (List.mem_append_left _ (List.mem_of_getElem? (i := 70) rfl))))))) rfl
theorem kL_67 : LkV "EndlessTugLaw" 67 mX12_then 3 := ⟨List.forall_mem_cons.mpr ⟨w_1079, List.forall_mem_cons.mpr ⟨w_1080, List.forall_mem_cons.mpr ⟨w_1081, List.forall_mem_cons.mpr ⟨w_65, fun _ h => absurd h List.not_mem_nil⟩⟩⟩⟩, w_1082, ⟨by decide +kernel, by decide +kernel, by decide +kernel⟩⟩
theorem w_571 : (.methodLink "EndlessTugLaw" 68 yX11_wins : Cond) ∈ ws0 := ws0_mem (List.mem_append_right _ (List.mem_append_right _ (List.mem_append_right _ (List.mem_append_left _ (List.mem_of_getElem? (i := 39) rfl))))) rfl
theorem w_572 : (.instanceMethod yX11_wins : Cond) ∈ ws0 := ws0_mem (List.mem_append_right _ (List.mem_append_right _ (List.mem_append_right _ (List.mem_append_left _ (List.mem_of_getElem? (i := 40) rfl))))) rfl
theorem w_573 : (.selects "EndlessTug" yX11_wins yX11_wins : Cond) ∈ ws0 := ws0_mem (List.mem_append_right _ (List.mem_append_right _ (List.mem_append_right _ (List.mem_append_left _ (List.mem_of_getElem? (i := 41) rfl))))) rfl
theorem w_574 : (cdW mX11_wins : Cond) ∈ ws0 := ws0_mem (List.mem_append_right _ (List.mem_append_right _ (List.mem_append_right _ (List.mem_append_left _ (List.mem_of_getElem? (i := 42) rfl))))) rfl
theorem kL_68 : LkV "EndlessTugLaw" 68 mX11_wins 2 := ⟨List.forall_mem_cons.mpr ⟨w_571, List.forall_mem_cons.mpr ⟨w_572, List.forall_mem_cons.mpr ⟨w_573, List.forall_mem_cons.mpr ⟨w_53, fun _ h => absurd h List.not_mem_nil⟩⟩⟩⟩, w_574, ⟨by decide +kernel, by decide +kernel, by decide +kernel⟩⟩
theorem w_1083 : (.methodLink "EndlessTugLaw" 71 yX12_wins : Cond) ∈ ws0 := ws0_mem (List.mem_append_right _ (List.mem_append_right _ (List.mem_append_right _ (List.mem_append_right _ (List.mem_append_right _ (List.mem_append_left _ (List.mem_of_getElem? (i := 71) rfl))))))) rfl
theorem w_1084 : (.instanceMethod yX12_wins : Cond) ∈ ws0 := ws0_mem (List.mem_append_right _ (List.mem_append_right _ (List.mem_append_right _ (List.mem_append_right _ (List.mem_append_right _ (List.mem_append_left _ (List.mem_of_getElem? (i := 72) rfl))))))) rfl
theorem w_1085 : (.selects "EndlessTugModel" yX12_wins yX12_wins : Cond) ∈ ws0 := ws0_mem (List.mem_append_right _ (List.mem_append_right _ (List.mem_append_right _ (List.mem_append_right _ (List.mem_append_right _ (List.mem_append_left _ (List.mem_of_getElem? (i := 73) rfl))))))) rfl
theorem w_1086 : (cdW mX12_wins : Cond) ∈ ws0 := ws0_mem (List.mem_append_right _ (List.mem_append_right _ (List.mem_append_right _ (List.mem_append_right _ (List.mem_append_right _ (List.mem_append_left _ (List.mem_of_getElem? (i := 74) rfl))))))) rfl
theorem kL_71 : LkV "EndlessTugLaw" 71 mX12_wins 2 := ⟨List.forall_mem_cons.mpr ⟨w_1083, List.forall_mem_cons.mpr ⟨w_1084, List.forall_mem_cons.mpr ⟨w_1085, List.forall_mem_cons.mpr ⟨w_65, fun _ h => absurd h List.not_mem_nil⟩⟩⟩⟩, w_1086, ⟨by decide +kernel, by decide +kernel, by decide +kernel⟩⟩
theorem w_578 : (.methodLink "EndlessTugLaw" 72 yX11_off : Cond) ∈ ws0 := ws0_mem (List.mem_append_right _ (List.mem_append_right _ (List.mem_append_right _ (List.mem_append_left _ (List.mem_of_getElem? (i := 46) rfl))))) rfl
theorem w_579 : (.instanceMethod yX11_off : Cond) ∈ ws0 := ws0_mem (List.mem_append_right _ (List.mem_append_right _ (List.mem_append_right _ (List.mem_append_left _ (List.mem_of_getElem? (i := 47) rfl))))) rfl
theorem w_580 : (.selects "EndlessTug" yX11_off yX11_off : Cond) ∈ ws0 := ws0_mem (List.mem_append_right _ (List.mem_append_right _ (List.mem_append_right _ (List.mem_append_left _ (List.mem_of_getElem? (i := 48) rfl))))) rfl
theorem w_581 : (cdW mX11_off : Cond) ∈ ws0 := ws0_mem (List.mem_append_right _ (List.mem_append_right _ (List.mem_append_right _ (List.mem_append_left _ (List.mem_of_getElem? (i := 49) rfl))))) rfl
theorem kL_72 : LkV "EndlessTugLaw" 72 mX11_off 1 := ⟨List.forall_mem_cons.mpr ⟨w_578, List.forall_mem_cons.mpr ⟨w_579, List.forall_mem_cons.mpr ⟨w_580, List.forall_mem_cons.mpr ⟨w_53, fun _ h => absurd h List.not_mem_nil⟩⟩⟩⟩, w_581, ⟨by decide +kernel, by decide +kernel, by decide +kernel⟩⟩
theorem w_1091 : (.methodLink "EndlessTugLaw" 75 yX12_off : Cond) ∈ ws0 := ws0_mem (List.mem_append_right _ (List.mem_append_right _ (List.mem_append_right _ (List.mem_append_right _ (List.mem_append_right _ (List.mem_append_left _ (List.mem_of_getElem? (i := 79) rfl))))))) rfl
theorem w_1092 : (.instanceMethod yX12_off : Cond) ∈ ws0 := ws0_mem (List.mem_append_right _ (List.mem_append_right _ (List.mem_append_right _ (List.mem_append_right _ (List.mem_append_right _ (List.mem_append_left _ (List.mem_of_getElem? (i := 80) rfl))))))) rfl
theorem w_1093 : (.selects "EndlessTugModel" yX12_off yX12_off : Cond) ∈ ws0 := ws0_mem (List.mem_append_right _ (List.mem_append_right _ (List.mem_append_right _ (List.mem_append_right _ (List.mem_append_right _ (List.mem_append_left _ (List.mem_of_getElem? (i := 81) rfl))))))) rfl
theorem w_1094 : (cdW mX12_off : Cond) ∈ ws0 := ws0_mem (List.mem_append_right _ (List.mem_append_right _ (List.mem_append_right _ (List.mem_append_right _ (List.mem_append_right _ (List.mem_append_left _ (List.mem_of_getElem? (i := 82) rfl))))))) rfl
theorem kL_75 : LkV "EndlessTugLaw" 75 mX12_off 1 := ⟨List.forall_mem_cons.mpr ⟨w_1091, List.forall_mem_cons.mpr ⟨w_1092, List.forall_mem_cons.mpr ⟨w_1093, List.forall_mem_cons.mpr ⟨w_65, fun _ h => absurd h List.not_mem_nil⟩⟩⟩⟩, w_1094, ⟨by decide +kernel, by decide +kernel, by decide +kernel⟩⟩
theorem w_582 : (.methodLink "EndlessTugLaw" 76 yX11_turns : Cond) ∈ ws0 := ws0_mem (List.mem_append_right _ (List.mem_append_right _ (List.mem_append_right _ (List.mem_append_left _ (List.mem_of_getElem? (i := 50) rfl))))) rfl
theorem w_583 : (.instanceMethod yX11_turns : Cond) ∈ ws0 := ws0_mem (List.mem_append_right _ (List.mem_append_right _ (List.mem_append_right _ (List.mem_append_left _ (List.mem_of_getElem? (i := 51) rfl))))) rfl
theorem w_584 : (.selects "EndlessTug" yX11_turns yX11_turns : Cond) ∈ ws0 := ws0_mem (List.mem_append_right _ (List.mem_append_right _ (List.mem_append_right _ (List.mem_append_left _ (List.mem_of_getElem? (i := 52) rfl))))) rfl
theorem w_585 : (cdW mX11_turns : Cond) ∈ ws0 := ws0_mem (List.mem_append_right _ (List.mem_append_right _ (List.mem_append_right _ (List.mem_append_left _ (List.mem_of_getElem? (i := 53) rfl))))) rfl
theorem kL_76 : LkV "EndlessTugLaw" 76 mX11_turns 0 := ⟨List.forall_mem_cons.mpr ⟨w_582, List.forall_mem_cons.mpr ⟨w_583, List.forall_mem_cons.mpr ⟨w_584, List.forall_mem_cons.mpr ⟨w_53, fun _ h => absurd h List.not_mem_nil⟩⟩⟩⟩, w_585, ⟨by decide +kernel, by decide +kernel, by decide +kernel⟩⟩
theorem w_1095 : (.methodLink "EndlessTugLaw" 80 yX12_turns : Cond) ∈ ws0 := ws0_mem (List.mem_append_right _ (List.mem_append_right _ (List.mem_append_right _ (List.mem_append_right _ (List.mem_append_right _ (List.mem_append_left _ (List.mem_of_getElem? (i := 83) rfl))))))) rfl
theorem w_1096 : (.instanceMethod yX12_turns : Cond) ∈ ws0 := ws0_mem (List.mem_append_right _ (List.mem_append_right _ (List.mem_append_right _ (List.mem_append_right _ (List.mem_append_right _ (List.mem_append_left _ (List.mem_of_getElem? (i := 84) rfl))))))) rfl
theorem w_1097 : (.selects "EndlessTugModel" yX12_turns yX12_turns : Cond) ∈ ws0 := ws0_mem (List.mem_append_right _ (List.mem_append_right _ (List.mem_append_right _ (List.mem_append_right _ (List.mem_append_right _ (List.mem_append_left _ (List.mem_of_getElem? (i := 85) rfl))))))) rfl
theorem w_1098 : (cdW mX12_turns : Cond) ∈ ws0 := ws0_mem (List.mem_append_right _ (List.mem_append_right _ (List.mem_append_right _ (List.mem_append_right _ (List.mem_append_right _ (List.mem_append_left _ (List.mem_of_getElem? (i := 86) rfl))))))) rfl
theorem kL_80 : LkV "EndlessTugLaw" 80 mX12_turns 0 := ⟨List.forall_mem_cons.mpr ⟨w_1095, List.forall_mem_cons.mpr ⟨w_1096, List.forall_mem_cons.mpr ⟨w_1097, List.forall_mem_cons.mpr ⟨w_65, fun _ h => absurd h List.not_mem_nil⟩⟩⟩⟩, w_1098, ⟨by decide +kernel, by decide +kernel, by decide +kernel⟩⟩
theorem w_586 : (.methodLink "EndlessTugLaw" 81 yX11_spell : Cond) ∈ ws0 := ws0_mem (List.mem_append_right _ (List.mem_append_right _ (List.mem_append_right _ (List.mem_append_left _ (List.mem_of_getElem? (i := 54) rfl))))) rfl
theorem w_587 : (.instanceMethod yX11_spell : Cond) ∈ ws0 := ws0_mem (List.mem_append_right _ (List.mem_append_right _ (List.mem_append_right _ (List.mem_append_left _ (List.mem_of_getElem? (i := 55) rfl))))) rfl
theorem w_588 : (.selects "EndlessTug" yX11_spell yX11_spell : Cond) ∈ ws0 := ws0_mem (List.mem_append_right _ (List.mem_append_right _ (List.mem_append_right _ (List.mem_append_left _ (List.mem_of_getElem? (i := 56) rfl))))) rfl
theorem w_589 : (cdW mX11_spell : Cond) ∈ ws0 := ws0_mem (List.mem_append_right _ (List.mem_append_right _ (List.mem_append_right _ (List.mem_append_left _ (List.mem_of_getElem? (i := 57) rfl))))) rfl
theorem kL_81 : LkV "EndlessTugLaw" 81 mX11_spell 2 := ⟨List.forall_mem_cons.mpr ⟨w_586, List.forall_mem_cons.mpr ⟨w_587, List.forall_mem_cons.mpr ⟨w_588, List.forall_mem_cons.mpr ⟨w_53, fun _ h => absurd h List.not_mem_nil⟩⟩⟩⟩, w_589, ⟨by decide +kernel, by decide +kernel, by decide +kernel⟩⟩
theorem w_1099 : (.methodLink "EndlessTugLaw" 84 yX12_spell : Cond) ∈ ws0 := ws0_mem (List.mem_append_right _ (List.mem_append_right _ (List.mem_append_right _ (List.mem_append_right _ (List.mem_append_right _ (List.mem_append_left _ (List.mem_of_getElem? (i := 87) rfl))))))) rfl
theorem w_1100 : (.instanceMethod yX12_spell : Cond) ∈ ws0 := ws0_mem (List.mem_append_right _ (List.mem_append_right _ (List.mem_append_right _ (List.mem_append_right _ (List.mem_append_right _ (List.mem_append_left _ (List.mem_of_getElem? (i := 88) rfl))))))) rfl
theorem w_1101 : (.selects "EndlessTugModel" yX12_spell yX12_spell : Cond) ∈ ws0 := ws0_mem (List.mem_append_right _ (List.mem_append_right _ (List.mem_append_right _ (List.mem_append_right _ (List.mem_append_right _ (List.mem_append_left _ (List.mem_of_getElem? (i := 89) rfl))))))) rfl
theorem w_1102 : (cdW mX12_spell : Cond) ∈ ws0 := ws0_mem (List.mem_append_right _ (List.mem_append_right _ (List.mem_append_right _ (List.mem_append_right _ (List.mem_append_right _ (List.mem_append_left _ (List.mem_of_getElem? (i := 90) rfl))))))) rfl
theorem kL_84 : LkV "EndlessTugLaw" 84 mX12_spell 2 := ⟨List.forall_mem_cons.mpr ⟨w_1099, List.forall_mem_cons.mpr ⟨w_1100, List.forall_mem_cons.mpr ⟨w_1101, List.forall_mem_cons.mpr ⟨w_65, fun _ h => absurd h List.not_mem_nil⟩⟩⟩⟩, w_1102, ⟨by decide +kernel, by decide +kernel, by decide +kernel⟩⟩
theorem w_602 : (.methodLink "EndlessTugLaw" 85 yX11_kind : Cond) ∈ ws0 := ws0_mem (List.mem_append_right _ (List.mem_append_right _ (List.mem_append_right _ (List.mem_append_left _ (List.mem_of_getElem? (i := 70) rfl))))) rfl
theorem w_603 : (.instanceMethod yX11_kind : Cond) ∈ ws0 := ws0_mem (List.mem_append_right _ (List.mem_append_right _ (List.mem_append_right _ (List.mem_append_left _ (List.mem_of_getElem? (i := 71) rfl))))) rfl
theorem w_604 : (.selects "EndlessTug" yX11_kind yX11_kind : Cond) ∈ ws0 := ws0_mem (List.mem_append_right _ (List.mem_append_right _ (List.mem_append_right _ (List.mem_append_left _ (List.mem_of_getElem? (i := 72) rfl))))) rfl
theorem w_605 : (cdW mX11_kind : Cond) ∈ ws0 := ws0_mem (List.mem_append_right _ (List.mem_append_right _ (List.mem_append_right _ (List.mem_append_left _ (List.mem_of_getElem? (i := 73) rfl))))) rfl
theorem kL_85 : LkV "EndlessTugLaw" 85 mX11_kind 2 := ⟨List.forall_mem_cons.mpr ⟨w_602, List.forall_mem_cons.mpr ⟨w_603, List.forall_mem_cons.mpr ⟨w_604, List.forall_mem_cons.mpr ⟨w_53, fun _ h => absurd h List.not_mem_nil⟩⟩⟩⟩, w_605, ⟨by decide +kernel, by decide +kernel, by decide +kernel⟩⟩
theorem w_1107 : (.methodLink "EndlessTugLaw" 88 yX12_kind : Cond) ∈ ws0 := ws0_mem (List.mem_append_right _ (List.mem_append_right _ (List.mem_append_right _ (List.mem_append_right _ (List.mem_append_right _ (List.mem_append_left _ (List.mem_of_getElem? (i := 95) rfl))))))) rfl
theorem w_1108 : (.instanceMethod yX12_kind : Cond) ∈ ws0 := ws0_mem (List.mem_append_right _ (List.mem_append_right _ (List.mem_append_right _ (List.mem_append_right _ (List.mem_append_right _ (List.mem_append_left _ (List.mem_of_getElem? (i := 96) rfl))))))) rfl
theorem w_1109 : (.selects "EndlessTugModel" yX12_kind yX12_kind : Cond) ∈ ws0 := ws0_mem (List.mem_append_right _ (List.mem_append_right _ (List.mem_append_right _ (List.mem_append_right _ (List.mem_append_right _ (List.mem_append_left _ (List.mem_of_getElem? (i := 97) rfl))))))) rfl
theorem w_1110 : (cdW mX12_kind : Cond) ∈ ws0 := ws0_mem (List.mem_append_right _ (List.mem_append_right _ (List.mem_append_right _ (List.mem_append_right _ (List.mem_append_right _ (List.mem_append_left _ (List.mem_of_getElem? (i := 98) rfl))))))) rfl
theorem kL_88 : LkV "EndlessTugLaw" 88 mX12_kind 2 := ⟨List.forall_mem_cons.mpr ⟨w_1107, List.forall_mem_cons.mpr ⟨w_1108, List.forall_mem_cons.mpr ⟨w_1109, List.forall_mem_cons.mpr ⟨w_65, fun _ h => absurd h List.not_mem_nil⟩⟩⟩⟩, w_1110, ⟨by decide +kernel, by decide +kernel, by decide +kernel⟩⟩
theorem w_606 : (.methodLink "EndlessTugLaw" 89 yX11_week : Cond) ∈ ws0 := ws0_mem (List.mem_append_right _ (List.mem_append_right _ (List.mem_append_right _ (List.mem_append_left _ (List.mem_of_getElem? (i := 74) rfl))))) rfl
theorem w_607 : (.instanceMethod yX11_week : Cond) ∈ ws0 := ws0_mem (List.mem_append_right _ (List.mem_append_right _ (List.mem_append_right _ (List.mem_append_left _ (List.mem_of_getElem? (i := 75) rfl))))) rfl
theorem w_608 : (.selects "EndlessTug" yX11_week yX11_week : Cond) ∈ ws0 := ws0_mem (List.mem_append_right _ (List.mem_append_right _ (List.mem_append_right _ (List.mem_append_left _ (List.mem_of_getElem? (i := 76) rfl))))) rfl
theorem w_609 : (cdW mX11_week : Cond) ∈ ws0 := ws0_mem (List.mem_append_right _ (List.mem_append_right _ (List.mem_append_right _ (List.mem_append_left _ (List.mem_of_getElem? (i := 77) rfl))))) rfl
theorem kL_89 : LkV "EndlessTugLaw" 89 mX11_week 2 := ⟨List.forall_mem_cons.mpr ⟨w_606, List.forall_mem_cons.mpr ⟨w_607, List.forall_mem_cons.mpr ⟨w_608, List.forall_mem_cons.mpr ⟨w_53, fun _ h => absurd h List.not_mem_nil⟩⟩⟩⟩, w_609, ⟨by decide +kernel, by decide +kernel, by decide +kernel⟩⟩
theorem w_1111 : (.methodLink "EndlessTugLaw" 92 yX12_week : Cond) ∈ ws0 := ws0_mem (List.mem_append_right _ (List.mem_append_right _ (List.mem_append_right _ (List.mem_append_right _ (List.mem_append_right _ (List.mem_append_left _ (List.mem_of_getElem? (i := 99) rfl))))))) rfl
theorem w_1112 : (.instanceMethod yX12_week : Cond) ∈ ws0 := ws0_mem (List.mem_append_right _ (List.mem_append_right _ (List.mem_append_right _ (List.mem_append_right _ (List.mem_append_right _ (List.mem_append_left _ (List.mem_of_getElem? (i := 100) rfl))))))) rfl
theorem w_1113 : (.selects "EndlessTugModel" yX12_week yX12_week : Cond) ∈ ws0 := ws0_mem (List.mem_append_right _ (List.mem_append_right _ (List.mem_append_right _ (List.mem_append_right _ (List.mem_append_right _ (List.mem_append_left _ (List.mem_of_getElem? (i := 101) rfl))))))) rfl
theorem w_1114 : (cdW mX12_week : Cond) ∈ ws0 := ws0_mem (List.mem_append_right _ (List.mem_append_right _ (List.mem_append_right _ (List.mem_append_right _ (List.mem_append_right _ (List.mem_append_left _ (List.mem_of_getElem? (i := 102) rfl))))))) rfl
theorem kL_92 : LkV "EndlessTugLaw" 92 mX12_week 2 := ⟨List.forall_mem_cons.mpr ⟨w_1111, List.forall_mem_cons.mpr ⟨w_1112, List.forall_mem_cons.mpr ⟨w_1113, List.forall_mem_cons.mpr ⟨w_65, fun _ h => absurd h List.not_mem_nil⟩⟩⟩⟩, w_1114, ⟨by decide +kernel, by decide +kernel, by decide +kernel⟩⟩
theorem w_610 : (.methodLink "EndlessTugLaw" 93 yX11_strong : Cond) ∈ ws0 := ws0_mem (List.mem_append_right _ (List.mem_append_right _ (List.mem_append_right _ (List.mem_append_left _ (List.mem_of_getElem? (i := 78) rfl))))) rfl
theorem w_611 : (.instanceMethod yX11_strong : Cond) ∈ ws0 := ws0_mem (List.mem_append_right _ (List.mem_append_right _ (List.mem_append_right _ (List.mem_append_left _ (List.mem_of_getElem? (i := 79) rfl))))) rfl
theorem w_612 : (.selects "EndlessTug" yX11_strong yX11_strong : Cond) ∈ ws0 := ws0_mem (List.mem_append_right _ (List.mem_append_right _ (List.mem_append_right _ (List.mem_append_left _ (List.mem_of_getElem? (i := 80) rfl))))) rfl
theorem w_613 : (cdW mX11_strong : Cond) ∈ ws0 := ws0_mem (List.mem_append_right _ (List.mem_append_right _ (List.mem_append_right _ (List.mem_append_left _ (List.mem_of_getElem? (i := 81) rfl))))) rfl
theorem kL_93 : LkV "EndlessTugLaw" 93 mX11_strong 3 := ⟨List.forall_mem_cons.mpr ⟨w_610, List.forall_mem_cons.mpr ⟨w_611, List.forall_mem_cons.mpr ⟨w_612, List.forall_mem_cons.mpr ⟨w_53, fun _ h => absurd h List.not_mem_nil⟩⟩⟩⟩, w_613, ⟨by decide +kernel, by decide +kernel, by decide +kernel⟩⟩
theorem w_1115 : (.methodLink "EndlessTugLaw" 96 yX12_strong : Cond) ∈ ws0 := ws0_mem (List.mem_append_right _ (List.mem_append_right _ (List.mem_append_right _ (List.mem_append_right _ (List.mem_append_right _ (List.mem_append_left _ (List.mem_of_getElem? (i := 103) rfl))))))) rfl
theorem w_1116 : (.instanceMethod yX12_strong : Cond) ∈ ws0 := ws0_mem (List.mem_append_right _ (List.mem_append_right _ (List.mem_append_right _ (List.mem_append_right _ (List.mem_append_right _ (List.mem_append_left _ (List.mem_of_getElem? (i := 104) rfl))))))) rfl
theorem w_1117 : (.selects "EndlessTugModel" yX12_strong yX12_strong : Cond) ∈ ws0 := ws0_mem (List.mem_append_right _ (List.mem_append_right _ (List.mem_append_right _ (List.mem_append_right _ (List.mem_append_right _ (List.mem_append_left _ (List.mem_of_getElem? (i := 105) rfl))))))) rfl
theorem w_1118 : (cdW mX12_strong : Cond) ∈ ws0 := ws0_mem (List.mem_append_right _ (List.mem_append_right _ (List.mem_append_right _ (List.mem_append_right _ (List.mem_append_right _ (List.mem_append_left _ (List.mem_of_getElem? (i := 106) rfl))))))) rfl
theorem kL_96 : LkV "EndlessTugLaw" 96 mX12_strong 3 := ⟨List.forall_mem_cons.mpr ⟨w_1115, List.forall_mem_cons.mpr ⟨w_1116, List.forall_mem_cons.mpr ⟨w_1117, List.forall_mem_cons.mpr ⟨w_65, fun _ h => absurd h List.not_mem_nil⟩⟩⟩⟩, w_1118, ⟨by decide +kernel, by decide +kernel, by decide +kernel⟩⟩
theorem w_614 : (.methodLink "EndlessTugLaw" 97 yX11_bears : Cond) ∈ ws0 := ws0_mem (List.mem_append_right _ (List.mem_append_right _ (List.mem_append_right _ (List.mem_append_left _ (List.mem_of_getElem? (i := 82) rfl))))) rfl
theorem w_615 : (.instanceMethod yX11_bears : Cond) ∈ ws0 := ws0_mem (List.mem_append_right _ (List.mem_append_right _ (List.mem_append_right _ (List.mem_append_left _ (List.mem_of_getElem? (i := 83) rfl))))) rfl
theorem w_616 : (.selects "EndlessTug" yX11_bears yX11_bears : Cond) ∈ ws0 := ws0_mem (List.mem_append_right _ (List.mem_append_right _ (List.mem_append_right _ (List.mem_append_left _ (List.mem_of_getElem? (i := 84) rfl))))) rfl
theorem w_617 : (cdW mX11_bears : Cond) ∈ ws0 := ws0_mem (List.mem_append_right _ (List.mem_append_right _ (List.mem_append_right _ (List.mem_append_left _ (List.mem_of_getElem? (i := 85) rfl))))) rfl
theorem kL_97 : LkV "EndlessTugLaw" 97 mX11_bears 2 := ⟨List.forall_mem_cons.mpr ⟨w_614, List.forall_mem_cons.mpr ⟨w_615, List.forall_mem_cons.mpr ⟨w_616, List.forall_mem_cons.mpr ⟨w_53, fun _ h => absurd h List.not_mem_nil⟩⟩⟩⟩, w_617, ⟨by decide +kernel, by decide +kernel, by decide +kernel⟩⟩
theorem w_1119 : (.methodLink "EndlessTugLaw" 100 yX12_bears : Cond) ∈ ws0 := ws0_mem (List.mem_append_right _ (List.mem_append_right _ (List.mem_append_right _ (List.mem_append_right _ (List.mem_append_right _ (List.mem_append_left _ (List.mem_of_getElem? (i := 107) rfl))))))) rfl
theorem w_1120 : (.instanceMethod yX12_bears : Cond) ∈ ws0 := ws0_mem (List.mem_append_right _ (List.mem_append_right _ (List.mem_append_right _ (List.mem_append_right _ (List.mem_append_right _ (List.mem_append_left _ (List.mem_of_getElem? (i := 108) rfl))))))) rfl
theorem w_1121 : (.selects "EndlessTugModel" yX12_bears yX12_bears : Cond) ∈ ws0 := ws0_mem (List.mem_append_right _ (List.mem_append_right _ (List.mem_append_right _ (List.mem_append_right _ (List.mem_append_right _ (List.mem_append_left _ (List.mem_of_getElem? (i := 109) rfl))))))) rfl
theorem w_1122 : (cdW mX12_bears : Cond) ∈ ws0 := ws0_mem (List.mem_append_right _ (List.mem_append_right _ (List.mem_append_right _ (List.mem_append_right _ (List.mem_append_right _ (List.mem_append_left _ (List.mem_of_getElem? (i := 110) rfl))))))) rfl
theorem kL_100 : LkV "EndlessTugLaw" 100 mX12_bears 2 := ⟨List.forall_mem_cons.mpr ⟨w_1119, List.forall_mem_cons.mpr ⟨w_1120, List.forall_mem_cons.mpr ⟨w_1121, List.forall_mem_cons.mpr ⟨w_65, fun _ h => absurd h List.not_mem_nil⟩⟩⟩⟩, w_1122, ⟨by decide +kernel, by decide +kernel, by decide +kernel⟩⟩
theorem w_618 : (.methodLink "EndlessTugLaw" 101 yX11_fewest : Cond) ∈ ws0 := ws0_mem (List.mem_append_right _ (List.mem_append_right _ (List.mem_append_right _ (List.mem_append_left _ (List.mem_of_getElem? (i := 86) rfl))))) rfl
theorem w_619 : (.instanceMethod yX11_fewest : Cond) ∈ ws0 := ws0_mem (List.mem_append_right _ (List.mem_append_right _ (List.mem_append_right _ (List.mem_append_left _ (List.mem_of_getElem? (i := 87) rfl))))) rfl
theorem w_620 : (.selects "EndlessTug" yX11_fewest yX11_fewest : Cond) ∈ ws0 := ws0_mem (List.mem_append_right _ (List.mem_append_right _ (List.mem_append_right _ (List.mem_append_left _ (List.mem_of_getElem? (i := 88) rfl))))) rfl
theorem w_621 : (cdW mX11_fewest : Cond) ∈ ws0 := ws0_mem (List.mem_append_right _ (List.mem_append_right _ (List.mem_append_right _ (List.mem_append_left _ (List.mem_of_getElem? (i := 89) rfl))))) rfl
theorem kL_101 : LkV "EndlessTugLaw" 101 mX11_fewest 1 := ⟨List.forall_mem_cons.mpr ⟨w_618, List.forall_mem_cons.mpr ⟨w_619, List.forall_mem_cons.mpr ⟨w_620, List.forall_mem_cons.mpr ⟨w_53, fun _ h => absurd h List.not_mem_nil⟩⟩⟩⟩, w_621, ⟨by decide +kernel, by decide +kernel, by decide +kernel⟩⟩
theorem w_1123 : (.methodLink "EndlessTugLaw" 104 yX12_fewest : Cond) ∈ ws0 := ws0_mem (List.mem_append_right _ (List.mem_append_right _ (List.mem_append_right _ (List.mem_append_right _ (List.mem_append_right _ (List.mem_append_left _ (List.mem_of_getElem? (i := 111) rfl))))))) rfl
theorem w_1124 : (.instanceMethod yX12_fewest : Cond) ∈ ws0 := ws0_mem (List.mem_append_right _ (List.mem_append_right _ (List.mem_append_right _ (List.mem_append_right _ (List.mem_append_right _ (List.mem_append_left _ (List.mem_of_getElem? (i := 112) rfl))))))) rfl
theorem w_1125 : (.selects "EndlessTugModel" yX12_fewest yX12_fewest : Cond) ∈ ws0 := ws0_mem (List.mem_append_right _ (List.mem_append_right _ (List.mem_append_right _ (List.mem_append_right _ (List.mem_append_right _ (List.mem_append_left _ (List.mem_of_getElem? (i := 113) rfl))))))) rfl
theorem w_1126 : (cdW mX12_fewest : Cond) ∈ ws0 := ws0_mem (List.mem_append_right _ (List.mem_append_right _ (List.mem_append_right _ (List.mem_append_right _ (List.mem_append_right _ (List.mem_append_left _ (List.mem_of_getElem? (i := 114) rfl))))))) rfl
theorem kL_104 : LkV "EndlessTugLaw" 104 mX12_fewest 1 := ⟨List.forall_mem_cons.mpr ⟨w_1123, List.forall_mem_cons.mpr ⟨w_1124, List.forall_mem_cons.mpr ⟨w_1125, List.forall_mem_cons.mpr ⟨w_65, fun _ h => absurd h List.not_mem_nil⟩⟩⟩⟩, w_1126, ⟨by decide +kernel, by decide +kernel, by decide +kernel⟩⟩
theorem w_636 : (.methodLink "EndlessTugLaw" 105 yX11_traitor : Cond) ∈ ws0 := ws0_mem (List.mem_append_right _ (List.mem_append_right _ (List.mem_append_right _ (List.mem_append_left _ (List.mem_of_getElem? (i := 104) rfl))))) rfl
theorem w_637 : (.instanceMethod yX11_traitor : Cond) ∈ ws0 := ws0_mem (List.mem_append_right _ (List.mem_append_right _ (List.mem_append_right _ (List.mem_append_left _ (List.mem_of_getElem? (i := 105) rfl))))) rfl
theorem w_638 : (.selects "EndlessTug" yX11_traitor yX11_traitor : Cond) ∈ ws0 := ws0_mem (List.mem_append_right _ (List.mem_append_right _ (List.mem_append_right _ (List.mem_append_left _ (List.mem_of_getElem? (i := 106) rfl))))) rfl
theorem w_639 : (cdW mX11_traitor : Cond) ∈ ws0 := ws0_mem (List.mem_append_right _ (List.mem_append_right _ (List.mem_append_right _ (List.mem_append_left _ (List.mem_of_getElem? (i := 107) rfl))))) rfl
theorem kL_105 : LkV "EndlessTugLaw" 105 mX11_traitor 1 := ⟨List.forall_mem_cons.mpr ⟨w_636, List.forall_mem_cons.mpr ⟨w_637, List.forall_mem_cons.mpr ⟨w_638, List.forall_mem_cons.mpr ⟨w_53, fun _ h => absurd h List.not_mem_nil⟩⟩⟩⟩, w_639, ⟨by decide +kernel, by decide +kernel, by decide +kernel⟩⟩
theorem w_1130 : (.methodLink "EndlessTugLaw" 108 yX12_traitor : Cond) ∈ ws0 := ws0_mem (List.mem_append_right _ (List.mem_append_right _ (List.mem_append_right _ (List.mem_append_right _ (List.mem_append_right _ (List.mem_append_left _ (List.mem_of_getElem? (i := 118) rfl))))))) rfl
theorem w_1131 : (.instanceMethod yX12_traitor : Cond) ∈ ws0 := ws0_mem (List.mem_append_right _ (List.mem_append_right _ (List.mem_append_right _ (List.mem_append_right _ (List.mem_append_right _ (List.mem_append_left _ (List.mem_of_getElem? (i := 119) rfl))))))) rfl
theorem w_1132 : (.selects "EndlessTugModel" yX12_traitor yX12_traitor : Cond) ∈ ws0 := ws0_mem (List.mem_append_right _ (List.mem_append_right _ (List.mem_append_right _ (List.mem_append_right _ (List.mem_append_right _ (List.mem_append_left _ (List.mem_of_getElem? (i := 120) rfl))))))) rfl
theorem w_1133 : (cdW mX12_traitor : Cond) ∈ ws0 := ws0_mem (List.mem_append_right _ (List.mem_append_right _ (List.mem_append_right _ (List.mem_append_right _ (List.mem_append_right _ (List.mem_append_left _ (List.mem_of_getElem? (i := 121) rfl))))))) rfl
theorem kL_108 : LkV "EndlessTugLaw" 108 mX12_traitor 1 := ⟨List.forall_mem_cons.mpr ⟨w_1130, List.forall_mem_cons.mpr ⟨w_1131, List.forall_mem_cons.mpr ⟨w_1132, List.forall_mem_cons.mpr ⟨w_65, fun _ h => absurd h List.not_mem_nil⟩⟩⟩⟩, w_1133, ⟨by decide +kernel, by decide +kernel, by decide +kernel⟩⟩
theorem w_643 : (.methodLink "EndlessTugLaw" 109 yX11_feed : Cond) ∈ ws0 := ws0_mem (List.mem_append_right _ (List.mem_append_right _ (List.mem_append_right _ (List.mem_append_left _ (List.mem_of_getElem? (i := 111) rfl))))) rfl
theorem w_644 : (.instanceMethod yX11_feed : Cond) ∈ ws0 := ws0_mem (List.mem_append_right _ (List.mem_append_right _ (List.mem_append_right _ (List.mem_append_left _ (List.mem_of_getElem? (i := 112) rfl))))) rfl
theorem w_645 : (.selects "EndlessTug" yX11_feed yX11_feed : Cond) ∈ ws0 := ws0_mem (List.mem_append_right _ (List.mem_append_right _ (List.mem_append_right _ (List.mem_append_left _ (List.mem_of_getElem? (i := 113) rfl))))) rfl
theorem w_646 : (cdW mX11_feed : Cond) ∈ ws0 := ws0_mem (List.mem_append_right _ (List.mem_append_right _ (List.mem_append_right _ (List.mem_append_left _ (List.mem_of_getElem? (i := 114) rfl))))) rfl
theorem kL_109 : LkV "EndlessTugLaw" 109 mX11_feed 2 := ⟨List.forall_mem_cons.mpr ⟨w_643, List.forall_mem_cons.mpr ⟨w_644, List.forall_mem_cons.mpr ⟨w_645, List.forall_mem_cons.mpr ⟨w_53, fun _ h => absurd h List.not_mem_nil⟩⟩⟩⟩, w_646, ⟨by decide +kernel, by decide +kernel, by decide +kernel⟩⟩
theorem w_1134 : (.methodLink "EndlessTugLaw" 112 yX12_feed : Cond) ∈ ws0 := ws0_mem (List.mem_append_right _ (List.mem_append_right _ (List.mem_append_right _ (List.mem_append_right _ (List.mem_append_right _ (List.mem_append_left _ (List.mem_of_getElem? (i := 122) rfl))))))) rfl
theorem w_1135 : (.instanceMethod yX12_feed : Cond) ∈ ws0 := ws0_mem (List.mem_append_right _ (List.mem_append_right _ (List.mem_append_right _ (List.mem_append_right _ (List.mem_append_right _ (List.mem_append_left _ (List.mem_of_getElem? (i := 123) rfl))))))) rfl
theorem w_1136 : (.selects "EndlessTugModel" yX12_feed yX12_feed : Cond) ∈ ws0 := ws0_mem (List.mem_append_right _ (List.mem_append_right _ (List.mem_append_right _ (List.mem_append_right _ (List.mem_append_right _ (List.mem_append_left _ (List.mem_of_getElem? (i := 124) rfl))))))) rfl
theorem w_1137 : (cdW mX12_feed : Cond) ∈ ws0 := ws0_mem (List.mem_append_right _ (List.mem_append_right _ (List.mem_append_right _ (List.mem_append_right _ (List.mem_append_right _ (List.mem_append_left _ (List.mem_of_getElem? (i := 125) rfl))))))) rfl
theorem kL_112 : LkV "EndlessTugLaw" 112 mX12_feed 2 := ⟨List.forall_mem_cons.mpr ⟨w_1134, List.forall_mem_cons.mpr ⟨w_1135, List.forall_mem_cons.mpr ⟨w_1136, List.forall_mem_cons.mpr ⟨w_65, fun _ h => absurd h List.not_mem_nil⟩⟩⟩⟩, w_1137, ⟨by decide +kernel, by decide +kernel, by decide +kernel⟩⟩
theorem w_651 : (.methodLink "EndlessTugLaw" 113 yX11_wipe : Cond) ∈ ws0 := ws0_mem (List.mem_append_right _ (List.mem_append_right _ (List.mem_append_right _ (List.mem_append_left _ (List.mem_of_getElem? (i := 119) rfl))))) rfl
theorem w_652 : (.instanceMethod yX11_wipe : Cond) ∈ ws0 := ws0_mem (List.mem_append_right _ (List.mem_append_right _ (List.mem_append_right _ (List.mem_append_left _ (List.mem_of_getElem? (i := 120) rfl))))) rfl
theorem w_653 : (.selects "EndlessTug" yX11_wipe yX11_wipe : Cond) ∈ ws0 := ws0_mem (List.mem_append_right _ (List.mem_append_right _ (List.mem_append_right _ (List.mem_append_left _ (List.mem_of_getElem? (i := 121) rfl))))) rfl
theorem w_654 : (cdW mX11_wipe : Cond) ∈ ws0 := ws0_mem (List.mem_append_right _ (List.mem_append_right _ (List.mem_append_right _ (List.mem_append_left _ (List.mem_of_getElem? (i := 122) rfl))))) rfl
theorem kL_113 : LkV "EndlessTugLaw" 113 mX11_wipe 0 := ⟨List.forall_mem_cons.mpr ⟨w_651, List.forall_mem_cons.mpr ⟨w_652, List.forall_mem_cons.mpr ⟨w_653, List.forall_mem_cons.mpr ⟨w_53, fun _ h => absurd h List.not_mem_nil⟩⟩⟩⟩, w_654, ⟨by decide +kernel, by decide +kernel, by decide +kernel⟩⟩
theorem w_1138 : (.methodLink "EndlessTugLaw" 116 yX12_wipe : Cond) ∈ ws0 := ws0_mem (List.mem_append_right _ (List.mem_append_right _ (List.mem_append_right _ (List.mem_append_right _ (List.mem_append_right _ (List.mem_append_left _ (List.mem_of_getElem? (i := 126) rfl))))))) rfl
theorem w_1139 : (.instanceMethod yX12_wipe : Cond) ∈ ws0 := ws0_mem (List.mem_append_right _ (List.mem_append_right _ (List.mem_append_right _ (List.mem_append_right _ (List.mem_append_right _ (List.mem_append_left _ (List.mem_of_getElem? (i := 127) rfl))))))) rfl
theorem w_1140 : (.selects "EndlessTugModel" yX12_wipe yX12_wipe : Cond) ∈ ws0 := ws0_mem (List.mem_append_right _ (List.mem_append_right _ (List.mem_append_right _ (List.mem_append_right _ (List.mem_append_right _ (List.mem_append_left _ (List.mem_of_getElem? (i := 128) rfl))))))) rfl
theorem w_1141 : (cdW mX12_wipe : Cond) ∈ ws0 := ws0_mem (List.mem_append_right _ (List.mem_append_right _ (List.mem_append_right _ (List.mem_append_right _ (List.mem_append_right _ (List.mem_append_left _ (List.mem_of_getElem? (i := 129) rfl))))))) rfl
theorem kL_116 : LkV "EndlessTugLaw" 116 mX12_wipe 0 := ⟨List.forall_mem_cons.mpr ⟨w_1138, List.forall_mem_cons.mpr ⟨w_1139, List.forall_mem_cons.mpr ⟨w_1140, List.forall_mem_cons.mpr ⟨w_65, fun _ h => absurd h List.not_mem_nil⟩⟩⟩⟩, w_1141, ⟨by decide +kernel, by decide +kernel, by decide +kernel⟩⟩
theorem w_655 : (.methodLink "EndlessTugLaw" 117 yX11_green : Cond) ∈ ws0 := ws0_mem (List.mem_append_right _ (List.mem_append_right _ (List.mem_append_right _ (List.mem_append_left _ (List.mem_of_getElem? (i := 123) rfl))))) rfl
theorem w_656 : (.instanceMethod yX11_green : Cond) ∈ ws0 := ws0_mem (List.mem_append_right _ (List.mem_append_right _ (List.mem_append_right _ (List.mem_append_left _ (List.mem_of_getElem? (i := 124) rfl))))) rfl
theorem w_657 : (.selects "EndlessTug" yX11_green yX11_green : Cond) ∈ ws0 := ws0_mem (List.mem_append_right _ (List.mem_append_right _ (List.mem_append_right _ (List.mem_append_left _ (List.mem_of_getElem? (i := 125) rfl))))) rfl
theorem w_658 : (cdW mX11_green : Cond) ∈ ws0 := ws0_mem (List.mem_append_right _ (List.mem_append_right _ (List.mem_append_right _ (List.mem_append_left _ (List.mem_of_getElem? (i := 126) rfl))))) rfl
theorem kL_117 : LkV "EndlessTugLaw" 117 mX11_green 0 := ⟨List.forall_mem_cons.mpr ⟨w_655, List.forall_mem_cons.mpr ⟨w_656, List.forall_mem_cons.mpr ⟨w_657, List.forall_mem_cons.mpr ⟨w_53, fun _ h => absurd h List.not_mem_nil⟩⟩⟩⟩, w_658, ⟨by decide +kernel, by decide +kernel, by decide +kernel⟩⟩
theorem w_1142 : (.methodLink "EndlessTugLaw" 120 yX12_green : Cond) ∈ ws0 := ws0_mem (List.mem_append_right _ (List.mem_append_right _ (List.mem_append_right _ (List.mem_append_right _ (List.mem_append_right _ (List.mem_append_left _ (List.mem_of_getElem? (i := 130) rfl))))))) rfl
theorem w_1143 : (.instanceMethod yX12_green : Cond) ∈ ws0 := ws0_mem (List.mem_append_right _ (List.mem_append_right _ (List.mem_append_right _ (List.mem_append_right _ (List.mem_append_right _ (List.mem_append_left _ (List.mem_of_getElem? (i := 131) rfl))))))) rfl
theorem w_1144 : (.selects "EndlessTugModel" yX12_green yX12_green : Cond) ∈ ws0 := ws0_mem (List.mem_append_right _ (List.mem_append_right _ (List.mem_append_right _ (List.mem_append_right _ (List.mem_append_right _ (List.mem_append_left _ (List.mem_of_getElem? (i := 132) rfl))))))) rfl
theorem w_1145 : (cdW mX12_green : Cond) ∈ ws0 := ws0_mem (List.mem_append_right _ (List.mem_append_right _ (List.mem_append_right _ (List.mem_append_right _ (List.mem_append_right _ (List.mem_append_left _ (List.mem_of_getElem? (i := 133) rfl))))))) rfl
theorem kL_120 : LkV "EndlessTugLaw" 120 mX12_green 0 := ⟨List.forall_mem_cons.mpr ⟨w_1142, List.forall_mem_cons.mpr ⟨w_1143, List.forall_mem_cons.mpr ⟨w_1144, List.forall_mem_cons.mpr ⟨w_65, fun _ h => absurd h List.not_mem_nil⟩⟩⟩⟩, w_1145, ⟨by decide +kernel, by decide +kernel, by decide +kernel⟩⟩
theorem w_776 : (.methodLink "EndlessTugLaw" 121 yX11_sheet : Cond) ∈ ws0 := ws0_mem (List.mem_append_right _ (List.mem_append_right _ (List.mem_append_right _ (List.mem_append_right _ (List.mem_append_left _ (List.mem_of_getElem? (i := 4) rfl)))))) rfl
theorem w_777 : (.instanceMethod yX11_sheet : Cond) ∈ ws0 := ws0_mem (List.mem_append_right _ (List.mem_append_right _ (List.mem_append_right _ (List.mem_append_right _ (List.mem_append_left _ (List.mem_of_getElem? (i := 5) rfl)))))) rfl
theorem w_778 : (.selects "EndlessTug" yX11_sheet yX11_sheet : Cond) ∈ ws0 := ws0_mem (List.mem_append_right _ (List.mem_append_right _ (List.mem_append_right _ (List.mem_append_right _ (List.mem_append_left _ (List.mem_of_getElem? (i := 6) rfl)))))) rfl
theorem w_779 : (cdW mX11_sheet : Cond) ∈ ws0 := ws0_mem (List.mem_append_right _ (List.mem_append_right _ (List.mem_append_right _ (List.mem_append_right _ (List.mem_append_left _ (List.mem_of_getElem? (i := 7) rfl)))))) rfl
theorem kL_121 : LkV "EndlessTugLaw" 121 mX11_sheet 3 := ⟨List.forall_mem_cons.mpr ⟨w_776, List.forall_mem_cons.mpr ⟨w_777, List.forall_mem_cons.mpr ⟨w_778, List.forall_mem_cons.mpr ⟨w_53, fun _ h => absurd h List.not_mem_nil⟩⟩⟩⟩, w_779, ⟨by decide +kernel, by decide +kernel, by decide +kernel⟩⟩
theorem w_1186 : (.methodLink "EndlessTugLaw" 124 yX12_sheet : Cond) ∈ ws0 := ws0_mem (List.mem_append_right _ (List.mem_append_right _ (List.mem_append_right _ (List.mem_append_right _ (List.mem_append_right _ (List.mem_append_left _ (List.mem_of_getElem? (i := 174) rfl))))))) rfl
theorem w_1187 : (.instanceMethod yX12_sheet : Cond) ∈ ws0 := ws0_mem (List.mem_append_right _ (List.mem_append_right _ (List.mem_append_right _ (List.mem_append_right _ (List.mem_append_right _ (List.mem_append_left _ (List.mem_of_getElem? (i := 175) rfl))))))) rfl
theorem w_1188 : (.selects "EndlessTugModel" yX12_sheet yX12_sheet : Cond) ∈ ws0 := ws0_mem (List.mem_append_right _ (List.mem_append_right _ (List.mem_append_right _ (List.mem_append_right _ (List.mem_append_right _ (List.mem_append_left _ (List.mem_of_getElem? (i := 176) rfl))))))) rfl
theorem w_1189 : (cdW mX12_sheet : Cond) ∈ ws0 := ws0_mem (List.mem_append_right _ (List.mem_append_right _ (List.mem_append_right _ (List.mem_append_right _ (List.mem_append_right _ (List.mem_append_left _ (List.mem_of_getElem? (i := 177) rfl))))))) rfl
theorem kL_124 : LkV "EndlessTugLaw" 124 mX12_sheet 3 := ⟨List.forall_mem_cons.mpr ⟨w_1186, List.forall_mem_cons.mpr ⟨w_1187, List.forall_mem_cons.mpr ⟨w_1188, List.forall_mem_cons.mpr ⟨w_65, fun _ h => absurd h List.not_mem_nil⟩⟩⟩⟩, w_1189, ⟨by decide +kernel, by decide +kernel, by decide +kernel⟩⟩
theorem w_791 : (.methodLink "EndlessTugLaw" 127 yX11_write : Cond) ∈ ws0 := ws0_mem (List.mem_append_right _ (List.mem_append_right _ (List.mem_append_right _ (List.mem_append_right _ (List.mem_append_left _ (List.mem_of_getElem? (i := 19) rfl)))))) rfl
theorem w_792 : (.instanceMethod yX11_write : Cond) ∈ ws0 := ws0_mem (List.mem_append_right _ (List.mem_append_right _ (List.mem_append_right _ (List.mem_append_right _ (List.mem_append_left _ (List.mem_of_getElem? (i := 20) rfl)))))) rfl
theorem w_793 : (.selects "EndlessTug" yX11_write yX11_write : Cond) ∈ ws0 := ws0_mem (List.mem_append_right _ (List.mem_append_right _ (List.mem_append_right _ (List.mem_append_right _ (List.mem_append_left _ (List.mem_of_getElem? (i := 21) rfl)))))) rfl
theorem w_794 : (cdW mX11_write : Cond) ∈ ws0 := ws0_mem (List.mem_append_right _ (List.mem_append_right _ (List.mem_append_right _ (List.mem_append_right _ (List.mem_append_left _ (List.mem_of_getElem? (i := 22) rfl)))))) rfl
theorem kL_127 : LkV "EndlessTugLaw" 127 mX11_write 3 := ⟨List.forall_mem_cons.mpr ⟨w_791, List.forall_mem_cons.mpr ⟨w_792, List.forall_mem_cons.mpr ⟨w_793, List.forall_mem_cons.mpr ⟨w_53, fun _ h => absurd h List.not_mem_nil⟩⟩⟩⟩, w_794, ⟨by decide +kernel, by decide +kernel, by decide +kernel⟩⟩
theorem w_1193 : (.methodLink "EndlessTugLaw" 131 yX12_write : Cond) ∈ ws0 := ws0_mem (List.mem_append_right _ (List.mem_append_right _ (List.mem_append_right _ (List.mem_append_right _ (List.mem_append_right _ (List.mem_append_left _ (List.mem_of_getElem? (i := 181) rfl))))))) rfl
theorem w_1194 : (.instanceMethod yX12_write : Cond) ∈ ws0 := ws0_mem (List.mem_append_right _ (List.mem_append_right _ (List.mem_append_right _ (List.mem_append_right _ (List.mem_append_right _ (List.mem_append_left _ (List.mem_of_getElem? (i := 182) rfl))))))) rfl
theorem w_1195 : (.selects "EndlessTugModel" yX12_write yX12_write : Cond) ∈ ws0 := ws0_mem (List.mem_append_right _ (List.mem_append_right _ (List.mem_append_right _ (List.mem_append_right _ (List.mem_append_right _ (List.mem_append_left _ (List.mem_of_getElem? (i := 183) rfl))))))) rfl
theorem w_1196 : (cdW mX12_write : Cond) ∈ ws0 := ws0_mem (List.mem_append_right _ (List.mem_append_right _ (List.mem_append_right _ (List.mem_append_right _ (List.mem_append_right _ (List.mem_append_left _ (List.mem_of_getElem? (i := 184) rfl))))))) rfl
theorem kL_131 : LkV "EndlessTugLaw" 131 mX12_write 3 := ⟨List.forall_mem_cons.mpr ⟨w_1193, List.forall_mem_cons.mpr ⟨w_1194, List.forall_mem_cons.mpr ⟨w_1195, List.forall_mem_cons.mpr ⟨w_65, fun _ h => absurd h List.not_mem_nil⟩⟩⟩⟩, w_1196, ⟨by decide +kernel, by decide +kernel, by decide +kernel⟩⟩
theorem w_804 : (.methodLink "EndlessTugLaw" 132 yX11_copy : Cond) ∈ ws0 := ws0_mem (List.mem_append_right _ (List.mem_append_right _ (List.mem_append_right _ (List.mem_append_right _ (List.mem_append_left _ (List.mem_of_getElem? (i := 32) rfl)))))) rfl
theorem w_805 : (.instanceMethod yX11_copy : Cond) ∈ ws0 := ws0_mem (List.mem_append_right _ (List.mem_append_right _ (List.mem_append_right _ (List.mem_append_right _ (List.mem_append_left _ (List.mem_of_getElem? (i := 33) rfl)))))) rfl
theorem w_806 : (.selects "EndlessTug" yX11_copy yX11_copy : Cond) ∈ ws0 := ws0_mem (List.mem_append_right _ (List.mem_append_right _ (List.mem_append_right _ (List.mem_append_right _ (List.mem_append_left _ (List.mem_of_getElem? (i := 34) rfl)))))) rfl
theorem w_807 : (cdW mX11_copy : Cond) ∈ ws0 := ws0_mem (List.mem_append_right _ (List.mem_append_right _ (List.mem_append_right _ (List.mem_append_right _ (List.mem_append_left _ (List.mem_of_getElem? (i := 35) rfl)))))) rfl
theorem kL_132 : LkV "EndlessTugLaw" 132 mX11_copy 5 := ⟨List.forall_mem_cons.mpr ⟨w_804, List.forall_mem_cons.mpr ⟨w_805, List.forall_mem_cons.mpr ⟨w_806, List.forall_mem_cons.mpr ⟨w_53, fun _ h => absurd h List.not_mem_nil⟩⟩⟩⟩, w_807, ⟨by decide +kernel, by decide +kernel, by decide +kernel⟩⟩
theorem w_1209 : (.methodLink "EndlessTugLaw" 136 yX12_copy : Cond) ∈ ws0 := ws0_mem (List.mem_append_right _ (List.mem_append_right _ (List.mem_append_right _ (List.mem_append_right _ (List.mem_append_right _ (List.mem_append_left _ (List.mem_of_getElem? (i := 197) rfl))))))) rfl
theorem w_1210 : (.instanceMethod yX12_copy : Cond) ∈ ws0 := ws0_mem (List.mem_append_right _ (List.mem_append_right _ (List.mem_append_right _ (List.mem_append_right _ (List.mem_append_right _ (List.mem_append_left _ (List.mem_of_getElem? (i := 198) rfl))))))) rfl
theorem w_1211 : (.selects "EndlessTugModel" yX12_copy yX12_copy : Cond) ∈ ws0 := ws0_mem (List.mem_append_right _ (List.mem_append_right _ (List.mem_append_right _ (List.mem_append_right _ (List.mem_append_right _ (List.mem_append_left _ (List.mem_of_getElem? (i := 199) rfl))))))) rfl
theorem w_1212 : (cdW mX12_copy : Cond) ∈ ws0 := ws0_mem (List.mem_append_right _ (List.mem_append_right _ (List.mem_append_right _ (List.mem_append_right _ (List.mem_append_right _ (List.mem_append_left _ (List.mem_of_getElem? (i := 200) rfl))))))) rfl
theorem kL_136 : LkV "EndlessTugLaw" 136 mX12_copy 5 := ⟨List.forall_mem_cons.mpr ⟨w_1209, List.forall_mem_cons.mpr ⟨w_1210, List.forall_mem_cons.mpr ⟨w_1211, List.forall_mem_cons.mpr ⟨w_65, fun _ h => absurd h List.not_mem_nil⟩⟩⟩⟩, w_1212, ⟨by decide +kernel, by decide +kernel, by decide +kernel⟩⟩
theorem w_815 : (.methodLink "EndlessTugLaw" 137 yX11_lays : Cond) ∈ ws0 := ws0_mem (List.mem_append_right _ (List.mem_append_right _ (List.mem_append_right _ (List.mem_append_right _ (List.mem_append_left _ (List.mem_of_getElem? (i := 43) rfl)))))) rfl
theorem w_816 : (.instanceMethod yX11_lays : Cond) ∈ ws0 := ws0_mem (List.mem_append_right _ (List.mem_append_right _ (List.mem_append_right _ (List.mem_append_right _ (List.mem_append_left _ (List.mem_of_getElem? (i := 44) rfl)))))) rfl
theorem w_817 : (.selects "EndlessTug" yX11_lays yX11_lays : Cond) ∈ ws0 := ws0_mem (List.mem_append_right _ (List.mem_append_right _ (List.mem_append_right _ (List.mem_append_right _ (List.mem_append_left _ (List.mem_of_getElem? (i := 45) rfl)))))) rfl
theorem w_818 : (cdW mX11_lays : Cond) ∈ ws0 := ws0_mem (List.mem_append_right _ (List.mem_append_right _ (List.mem_append_right _ (List.mem_append_right _ (List.mem_append_left _ (List.mem_of_getElem? (i := 46) rfl)))))) rfl
theorem kL_137 : LkV "EndlessTugLaw" 137 mX11_lays 1 := ⟨List.forall_mem_cons.mpr ⟨w_815, List.forall_mem_cons.mpr ⟨w_816, List.forall_mem_cons.mpr ⟨w_817, List.forall_mem_cons.mpr ⟨w_53, fun _ h => absurd h List.not_mem_nil⟩⟩⟩⟩, w_818, ⟨by decide +kernel, by decide +kernel, by decide +kernel⟩⟩
theorem w_1213 : (.methodLink "EndlessTugLaw" 140 yX12_lays : Cond) ∈ ws0 := ws0_mem (List.mem_append_right _ (List.mem_append_right _ (List.mem_append_right _ (List.mem_append_right _ (List.mem_append_right _ (List.mem_append_left _ (List.mem_of_getElem? (i := 201) rfl))))))) rfl
theorem w_1214 : (.instanceMethod yX12_lays : Cond) ∈ ws0 := ws0_mem (List.mem_append_right _ (List.mem_append_right _ (List.mem_append_right _ (List.mem_append_right _ (List.mem_append_right _ (List.mem_append_left _ (List.mem_of_getElem? (i := 202) rfl))))))) rfl
theorem w_1215 : (.selects "EndlessTugModel" yX12_lays yX12_lays : Cond) ∈ ws0 := ws0_mem (List.mem_append_right _ (List.mem_append_right _ (List.mem_append_right _ (List.mem_append_right _ (List.mem_append_right _ (List.mem_append_left _ (List.mem_of_getElem? (i := 203) rfl))))))) rfl
theorem w_1216 : (cdW mX12_lays : Cond) ∈ ws0 := ws0_mem (List.mem_append_right _ (List.mem_append_right _ (List.mem_append_right _ (List.mem_append_right _ (List.mem_append_right _ (List.mem_append_left _ (List.mem_of_getElem? (i := 204) rfl))))))) rfl
theorem kL_140 : LkV "EndlessTugLaw" 140 mX12_lays 1 := ⟨List.forall_mem_cons.mpr ⟨w_1213, List.forall_mem_cons.mpr ⟨w_1214, List.forall_mem_cons.mpr ⟨w_1215, List.forall_mem_cons.mpr ⟨w_65, fun _ h => absurd h List.not_mem_nil⟩⟩⟩⟩, w_1216, ⟨by decide +kernel, by decide +kernel, by decide +kernel⟩⟩
theorem w_820 : (.methodLink "EndlessTugLaw" 141 yX11_book : Cond) ∈ ws0 := ws0_mem (List.mem_append_right _ (List.mem_append_right _ (List.mem_append_right _ (List.mem_append_right _ (List.mem_append_left _ (List.mem_of_getElem? (i := 48) rfl)))))) rfl
theorem w_821 : (.instanceMethod yX11_book : Cond) ∈ ws0 := ws0_mem (List.mem_append_right _ (List.mem_append_right _ (List.mem_append_right _ (List.mem_append_right _ (List.mem_append_left _ (List.mem_of_getElem? (i := 49) rfl)))))) rfl
theorem w_822 : (.selects "EndlessTug" yX11_book yX11_book : Cond) ∈ ws0 := ws0_mem (List.mem_append_right _ (List.mem_append_right _ (List.mem_append_right _ (List.mem_append_right _ (List.mem_append_left _ (List.mem_of_getElem? (i := 50) rfl)))))) rfl
theorem w_823 : (cdW mX11_book : Cond) ∈ ws0 := ws0_mem (List.mem_append_right _ (List.mem_append_right _ (List.mem_append_right _ (List.mem_append_right _ (List.mem_append_left _ (List.mem_of_getElem? (i := 51) rfl)))))) rfl
theorem kL_141 : LkV "EndlessTugLaw" 141 mX11_book 1 := ⟨List.forall_mem_cons.mpr ⟨w_820, List.forall_mem_cons.mpr ⟨w_821, List.forall_mem_cons.mpr ⟨w_822, List.forall_mem_cons.mpr ⟨w_53, fun _ h => absurd h List.not_mem_nil⟩⟩⟩⟩, w_823, ⟨by decide +kernel, by decide +kernel, by decide +kernel⟩⟩
theorem w_1218 : (.methodLink "EndlessTugLaw" 144 yX12_book : Cond) ∈ ws0 := ws0_mem (List.mem_append_right _ (List.mem_append_right _ (List.mem_append_right _ (List.mem_append_right _ (List.mem_append_right _ (List.mem_append_left _ (List.mem_of_getElem? (i := 206) rfl))))))) rfl
theorem w_1219 : (.instanceMethod yX12_book : Cond) ∈ ws0 := ws0_mem (List.mem_append_right _ (List.mem_append_right _ (List.mem_append_right _ (List.mem_append_right _ (List.mem_append_right _ (List.mem_append_left _ (List.mem_of_getElem? (i := 207) rfl))))))) rfl
theorem w_1220 : (.selects "EndlessTugModel" yX12_book yX12_book : Cond) ∈ ws0 := ws0_mem (List.mem_append_right _ (List.mem_append_right _ (List.mem_append_right _ (List.mem_append_right _ (List.mem_append_right _ (List.mem_append_left _ (List.mem_of_getElem? (i := 208) rfl))))))) rfl
theorem w_1221 : (cdW mX12_book : Cond) ∈ ws0 := ws0_mem (List.mem_append_right _ (List.mem_append_right _ (List.mem_append_right _ (List.mem_append_right _ (List.mem_append_right _ (List.mem_append_left _ (List.mem_of_getElem? (i := 209) rfl))))))) rfl
theorem kL_144 : LkV "EndlessTugLaw" 144 mX12_book 1 := ⟨List.forall_mem_cons.mpr ⟨w_1218, List.forall_mem_cons.mpr ⟨w_1219, List.forall_mem_cons.mpr ⟨w_1220, List.forall_mem_cons.mpr ⟨w_65, fun _ h => absurd h List.not_mem_nil⟩⟩⟩⟩, w_1221, ⟨by decide +kernel, by decide +kernel, by decide +kernel⟩⟩
theorem w_824 : (.methodLink "EndlessTugLaw" 145 yX11_read : Cond) ∈ ws0 := ws0_mem (List.mem_append_right _ (List.mem_append_right _ (List.mem_append_right _ (List.mem_append_right _ (List.mem_append_left _ (List.mem_of_getElem? (i := 52) rfl)))))) rfl
theorem w_825 : (.instanceMethod yX11_read : Cond) ∈ ws0 := ws0_mem (List.mem_append_right _ (List.mem_append_right _ (List.mem_append_right _ (List.mem_append_right _ (List.mem_append_left _ (List.mem_of_getElem? (i := 53) rfl)))))) rfl
theorem w_826 : (.selects "EndlessTug" yX11_read yX11_read : Cond) ∈ ws0 := ws0_mem (List.mem_append_right _ (List.mem_append_right _ (List.mem_append_right _ (List.mem_append_right _ (List.mem_append_left _ (List.mem_of_getElem? (i := 54) rfl)))))) rfl
theorem w_827 : (cdW mX11_read : Cond) ∈ ws0 := ws0_mem (List.mem_append_right _ (List.mem_append_right _ (List.mem_append_right _ (List.mem_append_right _ (List.mem_append_left _ (List.mem_of_getElem? (i := 55) rfl)))))) rfl
theorem kL_145 : LkV "EndlessTugLaw" 145 mX11_read 2 := ⟨List.forall_mem_cons.mpr ⟨w_824, List.forall_mem_cons.mpr ⟨w_825, List.forall_mem_cons.mpr ⟨w_826, List.forall_mem_cons.mpr ⟨w_53, fun _ h => absurd h List.not_mem_nil⟩⟩⟩⟩, w_827, ⟨by decide +kernel, by decide +kernel, by decide +kernel⟩⟩
theorem w_1222 : (.methodLink "EndlessTugLaw" 148 yX12_read : Cond) ∈ ws0 := ws0_mem (List.mem_append_right _ (List.mem_append_right _ (List.mem_append_right _ (List.mem_append_right _ (List.mem_append_right _ (List.mem_append_left _ (List.mem_of_getElem? (i := 210) rfl))))))) rfl
theorem w_1223 : (.instanceMethod yX12_read : Cond) ∈ ws0 := ws0_mem (List.mem_append_right _ (List.mem_append_right _ (List.mem_append_right _ (List.mem_append_right _ (List.mem_append_right _ (List.mem_append_left _ (List.mem_of_getElem? (i := 211) rfl))))))) rfl
theorem w_1224 : (.selects "EndlessTugModel" yX12_read yX12_read : Cond) ∈ ws0 := ws0_mem (List.mem_append_right _ (List.mem_append_right _ (List.mem_append_right _ (List.mem_append_right _ (List.mem_append_right _ (List.mem_append_left _ (List.mem_of_getElem? (i := 212) rfl))))))) rfl
theorem w_1225 : (cdW mX12_read : Cond) ∈ ws0 := ws0_mem (List.mem_append_right _ (List.mem_append_right _ (List.mem_append_right _ (List.mem_append_right _ (List.mem_append_right _ (List.mem_append_left _ (List.mem_of_getElem? (i := 213) rfl))))))) rfl
theorem kL_148 : LkV "EndlessTugLaw" 148 mX12_read 2 := ⟨List.forall_mem_cons.mpr ⟨w_1222, List.forall_mem_cons.mpr ⟨w_1223, List.forall_mem_cons.mpr ⟨w_1224, List.forall_mem_cons.mpr ⟨w_65, fun _ h => absurd h List.not_mem_nil⟩⟩⟩⟩, w_1225, ⟨by decide +kernel, by decide +kernel, by decide +kernel⟩⟩
theorem w_832 : (.methodLink "EndlessTugLaw" 149 yX11_image : Cond) ∈ ws0 := ws0_mem (List.mem_append_right _ (List.mem_append_right _ (List.mem_append_right _ (List.mem_append_right _ (List.mem_append_left _ (List.mem_of_getElem? (i := 60) rfl)))))) rfl
theorem w_833 : (.instanceMethod yX11_image : Cond) ∈ ws0 := ws0_mem (List.mem_append_right _ (List.mem_append_right _ (List.mem_append_right _ (List.mem_append_right _ (List.mem_append_left _ (List.mem_of_getElem? (i := 61) rfl)))))) rfl
theorem w_834 : (.selects "EndlessTug" yX11_image yX11_image : Cond) ∈ ws0 := ws0_mem (List.mem_append_right _ (List.mem_append_right _ (List.mem_append_right _ (List.mem_append_right _ (List.mem_append_left _ (List.mem_of_getElem? (i := 62) rfl)))))) rfl
theorem w_835 : (cdW mX11_image : Cond) ∈ ws0 := ws0_mem (List.mem_append_right _ (List.mem_append_right _ (List.mem_append_right _ (List.mem_append_right _ (List.mem_append_left _ (List.mem_of_getElem? (i := 63) rfl)))))) rfl
theorem kL_149 : LkV "EndlessTugLaw" 149 mX11_image 0 := ⟨List.forall_mem_cons.mpr ⟨w_832, List.forall_mem_cons.mpr ⟨w_833, List.forall_mem_cons.mpr ⟨w_834, List.forall_mem_cons.mpr ⟨w_53, fun _ h => absurd h List.not_mem_nil⟩⟩⟩⟩, w_835, ⟨by decide +kernel, by decide +kernel, by decide +kernel⟩⟩
theorem w_1230 : (.methodLink "EndlessTugLaw" 152 yX12_image : Cond) ∈ ws0 := ws0_mem (List.mem_append_right _ (List.mem_append_right _ (List.mem_append_right _ (List.mem_append_right _ (List.mem_append_right _ (List.mem_append_left _ (List.mem_of_getElem? (i := 218) rfl))))))) rfl
theorem w_1231 : (.instanceMethod yX12_image : Cond) ∈ ws0 := ws0_mem (List.mem_append_right _ (List.mem_append_right _ (List.mem_append_right _ (List.mem_append_right _ (List.mem_append_right _ (List.mem_append_left _ (List.mem_of_getElem? (i := 219) rfl))))))) rfl
theorem w_1232 : (.selects "EndlessTugModel" yX12_image yX12_image : Cond) ∈ ws0 := ws0_mem (List.mem_append_right _ (List.mem_append_right _ (List.mem_append_right _ (List.mem_append_right _ (List.mem_append_right _ (List.mem_append_left _ (List.mem_of_getElem? (i := 220) rfl))))))) rfl
theorem w_1233 : (cdW mX12_image : Cond) ∈ ws0 := ws0_mem (List.mem_append_right _ (List.mem_append_right _ (List.mem_append_right _ (List.mem_append_right _ (List.mem_append_right _ (List.mem_append_left _ (List.mem_of_getElem? (i := 221) rfl))))))) rfl
theorem kL_152 : LkV "EndlessTugLaw" 152 mX12_image 0 := ⟨List.forall_mem_cons.mpr ⟨w_1230, List.forall_mem_cons.mpr ⟨w_1231, List.forall_mem_cons.mpr ⟨w_1232, List.forall_mem_cons.mpr ⟨w_65, fun _ h => absurd h List.not_mem_nil⟩⟩⟩⟩, w_1233, ⟨by decide +kernel, by decide +kernel, by decide +kernel⟩⟩
theorem w_836 : (.methodLink "EndlessTugLaw" 153 yX11_undo : Cond) ∈ ws0 := ws0_mem (List.mem_append_right _ (List.mem_append_right _ (List.mem_append_right _ (List.mem_append_right _ (List.mem_append_left _ (List.mem_of_getElem? (i := 64) rfl)))))) rfl
theorem w_837 : (.instanceMethod yX11_undo : Cond) ∈ ws0 := ws0_mem (List.mem_append_right _ (List.mem_append_right _ (List.mem_append_right _ (List.mem_append_right _ (List.mem_append_left _ (List.mem_of_getElem? (i := 65) rfl)))))) rfl
theorem w_838 : (.selects "EndlessTug" yX11_undo yX11_undo : Cond) ∈ ws0 := ws0_mem (List.mem_append_right _ (List.mem_append_right _ (List.mem_append_right _ (List.mem_append_right _ (List.mem_append_left _ (List.mem_of_getElem? (i := 66) rfl)))))) rfl
theorem w_839 : (cdW mX11_undo : Cond) ∈ ws0 := ws0_mem (List.mem_append_right _ (List.mem_append_right _ (List.mem_append_right _ (List.mem_append_right _ (List.mem_append_left _ (List.mem_of_getElem? (i := 67) rfl)))))) rfl
theorem kL_153 : LkV "EndlessTugLaw" 153 mX11_undo 0 := ⟨List.forall_mem_cons.mpr ⟨w_836, List.forall_mem_cons.mpr ⟨w_837, List.forall_mem_cons.mpr ⟨w_838, List.forall_mem_cons.mpr ⟨w_53, fun _ h => absurd h List.not_mem_nil⟩⟩⟩⟩, w_839, ⟨by decide +kernel, by decide +kernel, by decide +kernel⟩⟩
theorem w_1234 : (.methodLink "EndlessTugLaw" 156 yX12_undo : Cond) ∈ ws0 := ws0_mem (List.mem_append_right _ (List.mem_append_right _ (List.mem_append_right _ (List.mem_append_right _ (List.mem_append_right _ (List.mem_append_left _ (List.mem_of_getElem? (i := 222) rfl))))))) rfl
theorem w_1235 : (.instanceMethod yX12_undo : Cond) ∈ ws0 := ws0_mem (List.mem_append_right _ (List.mem_append_right _ (List.mem_append_right _ (List.mem_append_right _ (List.mem_append_right _ (List.mem_append_left _ (List.mem_of_getElem? (i := 223) rfl))))))) rfl
theorem w_1236 : (.selects "EndlessTugModel" yX12_undo yX12_undo : Cond) ∈ ws0 := ws0_mem (List.mem_append_right _ (List.mem_append_right _ (List.mem_append_right _ (List.mem_append_right _ (List.mem_append_right _ (List.mem_append_left _ (List.mem_of_getElem? (i := 224) rfl))))))) rfl
theorem w_1237 : (cdW mX12_undo : Cond) ∈ ws0 := ws0_mem (List.mem_append_right _ (List.mem_append_right _ (List.mem_append_right _ (List.mem_append_right _ (List.mem_append_right _ (List.mem_append_left _ (List.mem_of_getElem? (i := 225) rfl))))))) rfl
theorem kL_156 : LkV "EndlessTugLaw" 156 mX12_undo 0 := ⟨List.forall_mem_cons.mpr ⟨w_1234, List.forall_mem_cons.mpr ⟨w_1235, List.forall_mem_cons.mpr ⟨w_1236, List.forall_mem_cons.mpr ⟨w_65, fun _ h => absurd h List.not_mem_nil⟩⟩⟩⟩, w_1237, ⟨by decide +kernel, by decide +kernel, by decide +kernel⟩⟩
theorem w_840 : (.methodLink "EndlessTugLaw" 157 yX11_tear : Cond) ∈ ws0 := ws0_mem (List.mem_append_right _ (List.mem_append_right _ (List.mem_append_right _ (List.mem_append_right _ (List.mem_append_left _ (List.mem_of_getElem? (i := 68) rfl)))))) rfl
theorem w_841 : (.instanceMethod yX11_tear : Cond) ∈ ws0 := ws0_mem (List.mem_append_right _ (List.mem_append_right _ (List.mem_append_right _ (List.mem_append_right _ (List.mem_append_left _ (List.mem_of_getElem? (i := 69) rfl)))))) rfl
theorem w_842 : (.selects "EndlessTug" yX11_tear yX11_tear : Cond) ∈ ws0 := ws0_mem (List.mem_append_right _ (List.mem_append_right _ (List.mem_append_right _ (List.mem_append_right _ (List.mem_append_left _ (List.mem_of_getElem? (i := 70) rfl)))))) rfl
theorem w_843 : (cdW mX11_tear : Cond) ∈ ws0 := ws0_mem (List.mem_append_right _ (List.mem_append_right _ (List.mem_append_right _ (List.mem_append_right _ (List.mem_append_left _ (List.mem_of_getElem? (i := 71) rfl)))))) rfl
theorem kL_157 : LkV "EndlessTugLaw" 157 mX11_tear 0 := ⟨List.forall_mem_cons.mpr ⟨w_840, List.forall_mem_cons.mpr ⟨w_841, List.forall_mem_cons.mpr ⟨w_842, List.forall_mem_cons.mpr ⟨w_53, fun _ h => absurd h List.not_mem_nil⟩⟩⟩⟩, w_843, ⟨by decide +kernel, by decide +kernel, by decide +kernel⟩⟩
theorem w_1238 : (.methodLink "EndlessTugLaw" 160 yX12_tear : Cond) ∈ ws0 := ws0_mem (List.mem_append_right _ (List.mem_append_right _ (List.mem_append_right _ (List.mem_append_right _ (List.mem_append_right _ (List.mem_append_left _ (List.mem_of_getElem? (i := 226) rfl))))))) rfl
theorem w_1239 : (.instanceMethod yX12_tear : Cond) ∈ ws0 := ws0_mem (List.mem_append_right _ (List.mem_append_right _ (List.mem_append_right _ (List.mem_append_right _ (List.mem_append_right _ (List.mem_append_left _ (List.mem_of_getElem? (i := 227) rfl))))))) rfl
theorem w_1240 : (.selects "EndlessTugModel" yX12_tear yX12_tear : Cond) ∈ ws0 := ws0_mem (List.mem_append_right _ (List.mem_append_right _ (List.mem_append_right _ (List.mem_append_right _ (List.mem_append_right _ (List.mem_append_left _ (List.mem_of_getElem? (i := 228) rfl))))))) rfl
theorem w_1241 : (cdW mX12_tear : Cond) ∈ ws0 := ws0_mem (List.mem_append_right _ (List.mem_append_right _ (List.mem_append_right _ (List.mem_append_right _ (List.mem_append_right _ (List.mem_append_left _ (List.mem_of_getElem? (i := 229) rfl))))))) rfl
theorem kL_160 : LkV "EndlessTugLaw" 160 mX12_tear 0 := ⟨List.forall_mem_cons.mpr ⟨w_1238, List.forall_mem_cons.mpr ⟨w_1239, List.forall_mem_cons.mpr ⟨w_1240, List.forall_mem_cons.mpr ⟨w_65, fun _ h => absurd h List.not_mem_nil⟩⟩⟩⟩, w_1241, ⟨by decide +kernel, by decide +kernel, by decide +kernel⟩⟩
theorem w_844 : (.methodLink "EndlessTugLaw" 161 yX11_count : Cond) ∈ ws0 := ws0_mem (List.mem_append_right _ (List.mem_append_right _ (List.mem_append_right _ (List.mem_append_right _ (List.mem_append_left _ (List.mem_of_getElem? (i := 72) rfl)))))) rfl
theorem w_845 : (.instanceMethod yX11_count : Cond) ∈ ws0 := ws0_mem (List.mem_append_right _ (List.mem_append_right _ (List.mem_append_right _ (List.mem_append_right _ (List.mem_append_left _ (List.mem_of_getElem? (i := 73) rfl)))))) rfl
theorem w_846 : (.selects "EndlessTug" yX11_count yX11_count : Cond) ∈ ws0 := ws0_mem (List.mem_append_right _ (List.mem_append_right _ (List.mem_append_right _ (List.mem_append_right _ (List.mem_append_left _ (List.mem_of_getElem? (i := 74) rfl)))))) rfl
theorem w_847 : (cdW mX11_count : Cond) ∈ ws0 := ws0_mem (List.mem_append_right _ (List.mem_append_right _ (List.mem_append_right _ (List.mem_append_right _ (List.mem_append_left _ (List.mem_of_getElem? (i := 75) rfl)))))) rfl
theorem kL_161 : LkV "EndlessTugLaw" 161 mX11_count 1 := ⟨List.forall_mem_cons.mpr ⟨w_844, List.forall_mem_cons.mpr ⟨w_845, List.forall_mem_cons.mpr ⟨w_846, List.forall_mem_cons.mpr ⟨w_53, fun _ h => absurd h List.not_mem_nil⟩⟩⟩⟩, w_847, ⟨by decide +kernel, by decide +kernel, by decide +kernel⟩⟩
theorem w_1242 : (.methodLink "EndlessTugLaw" 164 yX12_count : Cond) ∈ ws0 := ws0_mem (List.mem_append_right _ (List.mem_append_right _ (List.mem_append_right _ (List.mem_append_right _ (List.mem_append_right _ (List.mem_append_left _ (List.mem_of_getElem? (i := 230) rfl))))))) rfl
theorem w_1243 : (.instanceMethod yX12_count : Cond) ∈ ws0 := ws0_mem (List.mem_append_right _ (List.mem_append_right _ (List.mem_append_right _ (List.mem_append_right _ (List.mem_append_right _ (List.mem_append_left _ (List.mem_of_getElem? (i := 231) rfl))))))) rfl
theorem w_1244 : (.selects "EndlessTugModel" yX12_count yX12_count : Cond) ∈ ws0 := ws0_mem (List.mem_append_right _ (List.mem_append_right _ (List.mem_append_right _ (List.mem_append_right _ (List.mem_append_right _ (List.mem_append_left _ (List.mem_of_getElem? (i := 232) rfl))))))) rfl
theorem w_1245 : (cdW mX12_count : Cond) ∈ ws0 := ws0_mem (List.mem_append_right _ (List.mem_append_right _ (List.mem_append_right _ (List.mem_append_right _ (List.mem_append_right _ (List.mem_append_left _ (List.mem_of_getElem? (i := 233) rfl))))))) rfl
theorem kL_164 : LkV "EndlessTugLaw" 164 mX12_count 1 := ⟨List.forall_mem_cons.mpr ⟨w_1242, List.forall_mem_cons.mpr ⟨w_1243, List.forall_mem_cons.mpr ⟨w_1244, List.forall_mem_cons.mpr ⟨w_65, fun _ h => absurd h List.not_mem_nil⟩⟩⟩⟩, w_1245, ⟨by decide +kernel, by decide +kernel, by decide +kernel⟩⟩
theorem w_856 : (.methodLink "EndlessTugLaw" 165 yX11_status : Cond) ∈ ws0 := ws0_mem (List.mem_append_right _ (List.mem_append_right _ (List.mem_append_right _ (List.mem_append_right _ (List.mem_append_left _ (List.mem_of_getElem? (i := 84) rfl)))))) rfl
theorem w_857 : (.instanceMethod yX11_status : Cond) ∈ ws0 := ws0_mem (List.mem_append_right _ (List.mem_append_right _ (List.mem_append_right _ (List.mem_append_right _ (List.mem_append_left _ (List.mem_of_getElem? (i := 85) rfl)))))) rfl
theorem w_858 : (.selects "EndlessTug" yX11_status yX11_status : Cond) ∈ ws0 := ws0_mem (List.mem_append_right _ (List.mem_append_right _ (List.mem_append_right _ (List.mem_append_right _ (List.mem_append_left _ (List.mem_of_getElem? (i := 86) rfl)))))) rfl
theorem w_859 : (cdW mX11_status : Cond) ∈ ws0 := ws0_mem (List.mem_append_right _ (List.mem_append_right _ (List.mem_append_right _ (List.mem_append_right _ (List.mem_append_left _ (List.mem_of_getElem? (i := 87) rfl)))))) rfl
theorem kL_165 : LkV "EndlessTugLaw" 165 mX11_status 1 := ⟨List.forall_mem_cons.mpr ⟨w_856, List.forall_mem_cons.mpr ⟨w_857, List.forall_mem_cons.mpr ⟨w_858, List.forall_mem_cons.mpr ⟨w_53, fun _ h => absurd h List.not_mem_nil⟩⟩⟩⟩, w_859, ⟨by decide +kernel, by decide +kernel, by decide +kernel⟩⟩
theorem w_1246 : (.methodLink "EndlessTugLaw" 168 yX12_status : Cond) ∈ ws0 := ws0_mem (List.mem_append_right _ (List.mem_append_right _ (List.mem_append_right _ (List.mem_append_right _ (List.mem_append_right _ (List.mem_append_left _ (List.mem_of_getElem? (i := 234) rfl))))))) rfl
theorem w_1247 : (.instanceMethod yX12_status : Cond) ∈ ws0 := ws0_mem (List.mem_append_right _ (List.mem_append_right _ (List.mem_append_right _ (List.mem_append_right _ (List.mem_append_right _ (List.mem_append_left _ (List.mem_of_getElem? (i := 235) rfl))))))) rfl
theorem w_1248 : (.selects "EndlessTugModel" yX12_status yX12_status : Cond) ∈ ws0 := ws0_mem (List.mem_append_right _ (List.mem_append_right _ (List.mem_append_right _ (List.mem_append_right _ (List.mem_append_right _ (List.mem_append_left _ (List.mem_of_getElem? (i := 236) rfl))))))) rfl
theorem w_1249 : (cdW mX12_status : Cond) ∈ ws0 := ws0_mem (List.mem_append_right _ (List.mem_append_right _ (List.mem_append_right _ (List.mem_append_right _ (List.mem_append_right _ (List.mem_append_left _ (List.mem_of_getElem? (i := 237) rfl))))))) rfl
theorem kL_168 : LkV "EndlessTugLaw" 168 mX12_status 1 := ⟨List.forall_mem_cons.mpr ⟨w_1246, List.forall_mem_cons.mpr ⟨w_1247, List.forall_mem_cons.mpr ⟨w_1248, List.forall_mem_cons.mpr ⟨w_65, fun _ h => absurd h List.not_mem_nil⟩⟩⟩⟩, w_1249, ⟨by decide +kernel, by decide +kernel, by decide +kernel⟩⟩
theorem w_865 : (.methodLink "EndlessTugModel" 1 Lib.objectInit : Cond) ∈ ws0 := ws0_mem (List.mem_append_right _ (List.mem_append_right _ (List.mem_append_right _ (List.mem_append_right _ (List.mem_append_left _ (List.mem_of_getElem? (i := 93) rfl)))))) rfl
theorem kX12_1 : ∀ w ∈ ([.methodLink "EndlessTugModel" 1 Lib.objectInit, .instanceMethod Lib.objectInit, .code Lib.objectInit ⟨#[0xb1]⟩ 1 none] : List Cond), w ∈ ws0 := List.forall_mem_cons.mpr ⟨w_865, List.forall_mem_cons.mpr ⟨w_80, List.forall_mem_cons.mpr ⟨w_81, fun _ h => absurd h List.not_mem_nil⟩⟩⟩
theorem w_929 : (.methodLink "EndlessTugModel" 52 yX12_in1 : Cond) ∈ ws0 := ws0_mem (List.mem_append_right _ (List.mem_append_right _ (List.mem_append_right _ (List.mem_append_right _ (List.mem_append_left _ (List.mem_of_getElem? (i := 157) rfl)))))) rfl
theorem w_930 : (.static yX12_in1 : Cond) ∈ ws0 := ws0_mem (List.mem_append_right _ (List.mem_append_right _ (List.mem_append_right _ (List.mem_append_right _ (List.mem_append_left _ (List.mem_of_getElem? (i := 158) rfl)))))) rfl
theorem w_931 : (cdW mX12_in1 : Cond) ∈ ws0 := ws0_mem (List.mem_append_right _ (List.mem_append_right _ (List.mem_append_right _ (List.mem_append_right _ (List.mem_append_left _ (List.mem_of_getElem? (i := 159) rfl)))))) rfl
theorem kX12_52 : LkS "EndlessTugModel" 52 mX12_in1 3 := ⟨List.forall_mem_cons.mpr ⟨w_929, List.forall_mem_cons.mpr ⟨w_930, List.forall_mem_cons.mpr ⟨w_65, fun _ h => absurd h List.not_mem_nil⟩⟩⟩, w_931, ⟨by decide +kernel, by decide +kernel, by decide +kernel⟩⟩
theorem w_956 : (.methodLink "EndlessTugModel" 56 yX12_weekNow : Cond) ∈ ws0 := ws0_mem (List.mem_append_right _ (List.mem_append_right _ (List.mem_append_right _ (List.mem_append_right _ (List.mem_append_left _ (List.mem_of_getElem? (i := 184) rfl)))))) rfl
theorem w_958 : (.instanceMethod yX12_weekNow : Cond) ∈ ws0 := ws0_mem (List.mem_append_right _ (List.mem_append_right _ (List.mem_append_right _ (List.mem_append_right _ (List.mem_append_left _ (List.mem_of_getElem? (i := 186) rfl)))))) rfl
theorem w_18 : (.selects "EndlessTugModel" yX12_weekNow yX12_weekNow : Cond) ∈ ws0 := ws0_mem (List.mem_append_left _ (List.mem_of_getElem? (i := 18) (by decide +kernel))) rfl
theorem w_959 : (cdW mX12_weekNow : Cond) ∈ ws0 := ws0_mem (List.mem_append_right _ (List.mem_append_right _ (List.mem_append_right _ (List.mem_append_right _ (List.mem_append_left _ (List.mem_of_getElem? (i := 187) rfl)))))) rfl
theorem kX12_56 : LkV "EndlessTugModel" 56 mX12_weekNow 0 := ⟨List.forall_mem_cons.mpr ⟨w_956, List.forall_mem_cons.mpr ⟨w_958, List.forall_mem_cons.mpr ⟨w_18, List.forall_mem_cons.mpr ⟨w_65, fun _ h => absurd h List.not_mem_nil⟩⟩⟩⟩, w_959, ⟨by decide +kernel, by decide +kernel, by decide +kernel⟩⟩
theorem w_976 : (.methodLink "EndlessTugModel" 60 yX12_get : Cond) ∈ ws0 := ws0_mem (List.mem_append_right _ (List.mem_append_right _ (List.mem_append_right _ (List.mem_append_right _ (List.mem_append_left _ (List.mem_of_getElem? (i := 204) rfl)))))) rfl
theorem w_978 : (.instanceMethod yX12_get : Cond) ∈ ws0 := ws0_mem (List.mem_append_right _ (List.mem_append_right _ (List.mem_append_right _ (List.mem_append_right _ (List.mem_append_left _ (List.mem_of_getElem? (i := 206) rfl)))))) rfl
theorem w_23 : (.selects "EndlessTugModel" yX12_get yX12_get : Cond) ∈ ws0 := ws0_mem (List.mem_append_left _ (List.mem_of_getElem? (i := 23) (by decide +kernel))) rfl
theorem w_979 : (cdW mX12_get : Cond) ∈ ws0 := ws0_mem (List.mem_append_right _ (List.mem_append_right _ (List.mem_append_right _ (List.mem_append_right _ (List.mem_append_left _ (List.mem_of_getElem? (i := 207) rfl)))))) rfl
theorem kX12_60 : LkV "EndlessTugModel" 60 mX12_get 2 := ⟨List.forall_mem_cons.mpr ⟨w_976, List.forall_mem_cons.mpr ⟨w_978, List.forall_mem_cons.mpr ⟨w_23, List.forall_mem_cons.mpr ⟨w_65, fun _ h => absurd h List.not_mem_nil⟩⟩⟩⟩, w_979, ⟨by decide +kernel, by decide +kernel, by decide +kernel⟩⟩
theorem w_964 : (.methodLink "EndlessTugModel" 64 yX12_isSunday : Cond) ∈ ws0 := ws0_mem (List.mem_append_right _ (List.mem_append_right _ (List.mem_append_right _ (List.mem_append_right _ (List.mem_append_left _ (List.mem_of_getElem? (i := 192) rfl)))))) rfl
theorem w_966 : (.instanceMethod yX12_isSunday : Cond) ∈ ws0 := ws0_mem (List.mem_append_right _ (List.mem_append_right _ (List.mem_append_right _ (List.mem_append_right _ (List.mem_append_left _ (List.mem_of_getElem? (i := 194) rfl)))))) rfl
theorem w_20 : (.selects "EndlessTugModel" yX12_isSunday yX12_isSunday : Cond) ∈ ws0 := ws0_mem (List.mem_append_left _ (List.mem_of_getElem? (i := 20) (by decide +kernel))) rfl
theorem w_967 : (cdW mX12_isSunday : Cond) ∈ ws0 := ws0_mem (List.mem_append_right _ (List.mem_append_right _ (List.mem_append_right _ (List.mem_append_right _ (List.mem_append_left _ (List.mem_of_getElem? (i := 195) rfl)))))) rfl
theorem kX12_64 : LkV "EndlessTugModel" 64 mX12_isSunday 0 := ⟨List.forall_mem_cons.mpr ⟨w_964, List.forall_mem_cons.mpr ⟨w_966, List.forall_mem_cons.mpr ⟨w_20, List.forall_mem_cons.mpr ⟨w_65, fun _ h => absurd h List.not_mem_nil⟩⟩⟩⟩, w_967, ⟨by decide +kernel, by decide +kernel, by decide +kernel⟩⟩
theorem w_960 : (.methodLink "EndlessTugModel" 68 yX12_isHarvest : Cond) ∈ ws0 := ws0_mem (List.mem_append_right _ (List.mem_append_right _ (List.mem_append_right _ (List.mem_append_right _ (List.mem_append_left _ (List.mem_of_getElem? (i := 188) rfl)))))) rfl
theorem w_962 : (.instanceMethod yX12_isHarvest : Cond) ∈ ws0 := ws0_mem (List.mem_append_right _ (List.mem_append_right _ (List.mem_append_right _ (List.mem_append_right _ (List.mem_append_left _ (List.mem_of_getElem? (i := 190) rfl)))))) rfl
theorem w_19 : (.selects "EndlessTugModel" yX12_isHarvest yX12_isHarvest : Cond) ∈ ws0 := ws0_mem (List.mem_append_left _ (List.mem_of_getElem? (i := 19) (by decide +kernel))) rfl
theorem w_963 : (cdW mX12_isHarvest : Cond) ∈ ws0 := ws0_mem (List.mem_append_right _ (List.mem_append_right _ (List.mem_append_right _ (List.mem_append_right _ (List.mem_append_left _ (List.mem_of_getElem? (i := 191) rfl)))))) rfl
theorem kX12_68 : LkV "EndlessTugModel" 68 mX12_isHarvest 0 := ⟨List.forall_mem_cons.mpr ⟨w_960, List.forall_mem_cons.mpr ⟨w_962, List.forall_mem_cons.mpr ⟨w_19, List.forall_mem_cons.mpr ⟨w_65, fun _ h => absurd h List.not_mem_nil⟩⟩⟩⟩, w_963, ⟨by decide +kernel, by decide +kernel, by decide +kernel⟩⟩
theorem w_968 : (.methodLink "EndlessTugModel" 71 yX12_aheadNow : Cond) ∈ ws0 := ws0_mem (List.mem_append_right _ (List.mem_append_right _ (List.mem_append_right _ (List.mem_append_right _ (List.mem_append_left _ (List.mem_of_getElem? (i := 196) rfl)))))) rfl
theorem w_970 : (.instanceMethod yX12_aheadNow : Cond) ∈ ws0 := ws0_mem (List.mem_append_right _ (List.mem_append_right _ (List.mem_append_right _ (List.mem_append_right _ (List.mem_append_left _ (List.mem_of_getElem? (i := 198) rfl)))))) rfl
theorem w_21 : (.selects "EndlessTugModel" yX12_aheadNow yX12_aheadNow : Cond) ∈ ws0 := ws0_mem (List.mem_append_left _ (List.mem_of_getElem? (i := 21) (by decide +kernel))) rfl
theorem w_971 : (cdW mX12_aheadNow : Cond) ∈ ws0 := ws0_mem (List.mem_append_right _ (List.mem_append_right _ (List.mem_append_right _ (List.mem_append_right _ (List.mem_append_left _ (List.mem_of_getElem? (i := 199) rfl)))))) rfl
theorem kX12_71 : LkV "EndlessTugModel" 71 mX12_aheadNow 0 := ⟨List.forall_mem_cons.mpr ⟨w_968, List.forall_mem_cons.mpr ⟨w_970, List.forall_mem_cons.mpr ⟨w_21, List.forall_mem_cons.mpr ⟨w_65, fun _ h => absurd h List.not_mem_nil⟩⟩⟩⟩, w_971, ⟨by decide +kernel, by decide +kernel, by decide +kernel⟩⟩
theorem w_984 : (.methodLink "EndlessTugModel" 74 yX12_pullsOf : Cond) ∈ ws0 := ws0_mem (List.mem_append_right _ (List.mem_append_right _ (List.mem_append_right _ (List.mem_append_right _ (List.mem_append_left _ (List.mem_of_getElem? (i := 212) rfl)))))) rfl
theorem w_986 : (.instanceMethod yX12_pullsOf : Cond) ∈ ws0 := ws0_mem (List.mem_append_right _ (List.mem_append_right _ (List.mem_append_right _ (List.mem_append_right _ (List.mem_append_left _ (List.mem_of_getElem? (i := 214) rfl)))))) rfl
theorem w_25 : (.selects "EndlessTugModel" yX12_pullsOf yX12_pullsOf : Cond) ∈ ws0 := ws0_mem (List.mem_append_left _ (List.mem_of_getElem? (i := 25) (by decide +kernel))) rfl
theorem w_987 : (cdW mX12_pullsOf : Cond) ∈ ws0 := ws0_mem (List.mem_append_right _ (List.mem_append_right _ (List.mem_append_right _ (List.mem_append_right _ (List.mem_append_left _ (List.mem_of_getElem? (i := 215) rfl)))))) rfl
theorem kX12_74 : LkV "EndlessTugModel" 74 mX12_pullsOf 1 := ⟨List.forall_mem_cons.mpr ⟨w_984, List.forall_mem_cons.mpr ⟨w_986, List.forall_mem_cons.mpr ⟨w_25, List.forall_mem_cons.mpr ⟨w_65, fun _ h => absurd h List.not_mem_nil⟩⟩⟩⟩, w_987, ⟨by decide +kernel, by decide +kernel, by decide +kernel⟩⟩
theorem w_980 : (.methodLink "EndlessTugModel" 78 yX12_sidePulls : Cond) ∈ ws0 := ws0_mem (List.mem_append_right _ (List.mem_append_right _ (List.mem_append_right _ (List.mem_append_right _ (List.mem_append_left _ (List.mem_of_getElem? (i := 208) rfl)))))) rfl
theorem w_982 : (.instanceMethod yX12_sidePulls : Cond) ∈ ws0 := ws0_mem (List.mem_append_right _ (List.mem_append_right _ (List.mem_append_right _ (List.mem_append_right _ (List.mem_append_left _ (List.mem_of_getElem? (i := 210) rfl)))))) rfl
theorem w_24 : (.selects "EndlessTugModel" yX12_sidePulls yX12_sidePulls : Cond) ∈ ws0 := ws0_mem (List.mem_append_left _ (List.mem_of_getElem? (i := 24) (by decide +kernel))) rfl
theorem w_983 : (cdW mX12_sidePulls : Cond) ∈ ws0 := ws0_mem (List.mem_append_right _ (List.mem_append_right _ (List.mem_append_right _ (List.mem_append_right _ (List.mem_append_left _ (List.mem_of_getElem? (i := 211) rfl)))))) rfl
theorem kX12_78 : LkV "EndlessTugModel" 78 mX12_sidePulls 1 := ⟨List.forall_mem_cons.mpr ⟨w_980, List.forall_mem_cons.mpr ⟨w_982, List.forall_mem_cons.mpr ⟨w_24, List.forall_mem_cons.mpr ⟨w_65, fun _ h => absurd h List.not_mem_nil⟩⟩⟩⟩, w_983, ⟨by decide +kernel, by decide +kernel, by decide +kernel⟩⟩
theorem w_1056 : (.methodLink "EndlessTugModel" 81 yX12_held : Cond) ∈ ws0 := ws0_mem (List.mem_append_right _ (List.mem_append_right _ (List.mem_append_right _ (List.mem_append_right _ (List.mem_append_right _ (List.mem_append_left _ (List.mem_of_getElem? (i := 44) rfl))))))) rfl
theorem w_1057 : (.static yX12_held : Cond) ∈ ws0 := ws0_mem (List.mem_append_right _ (List.mem_append_right _ (List.mem_append_right _ (List.mem_append_right _ (List.mem_append_right _ (List.mem_append_left _ (List.mem_of_getElem? (i := 45) rfl))))))) rfl
theorem w_1058 : (cdW mX12_held : Cond) ∈ ws0 := ws0_mem (List.mem_append_right _ (List.mem_append_right _ (List.mem_append_right _ (List.mem_append_right _ (List.mem_append_right _ (List.mem_append_left _ (List.mem_of_getElem? (i := 46) rfl))))))) rfl
theorem kX12_81 : LkS "EndlessTugModel" 81 mX12_held 3 := ⟨List.forall_mem_cons.mpr ⟨w_1056, List.forall_mem_cons.mpr ⟨w_1057, List.forall_mem_cons.mpr ⟨w_65, fun _ h => absurd h List.not_mem_nil⟩⟩⟩, w_1058, ⟨by decide +kernel, by decide +kernel, by decide +kernel⟩⟩
theorem w_1011 : (.methodLink "EndlessTugModel" 85 yX12_tiresOf : Cond) ∈ ws0 := ws0_mem (List.mem_append_right _ (List.mem_append_right _ (List.mem_append_right _ (List.mem_append_right _ (List.mem_append_left _ (List.mem_of_getElem? (i := 239) rfl)))))) rfl
theorem w_1013 : (.instanceMethod yX12_tiresOf : Cond) ∈ ws0 := ws0_mem (List.mem_append_right _ (List.mem_append_right _ (List.mem_append_right _ (List.mem_append_right _ (List.mem_append_right _ (List.mem_append_left _ (List.mem_of_getElem? (i := 1) rfl))))))) rfl
theorem w_29 : (.selects "EndlessTugModel" yX12_tiresOf yX12_tiresOf : Cond) ∈ ws0 := ws0_mem (List.mem_append_left _ (List.mem_of_getElem? (i := 29) (by decide +kernel))) rfl
theorem w_1014 : (cdW mX12_tiresOf : Cond) ∈ ws0 := ws0_mem (List.mem_append_right _ (List.mem_append_right _ (List.mem_append_right _ (List.mem_append_right _ (List.mem_append_right _ (List.mem_append_left _ (List.mem_of_getElem? (i := 2) rfl))))))) rfl
theorem kX12_85 : LkV "EndlessTugModel" 85 mX12_tiresOf 1 := ⟨List.forall_mem_cons.mpr ⟨w_1011, List.forall_mem_cons.mpr ⟨w_1013, List.forall_mem_cons.mpr ⟨w_29, List.forall_mem_cons.mpr ⟨w_65, fun _ h => absurd h List.not_mem_nil⟩⟩⟩⟩, w_1014, ⟨by decide +kernel, by decide +kernel, by decide +kernel⟩⟩
theorem w_999 : (.methodLink "EndlessTugModel" 88 yX12_puts : Cond) ∈ ws0 := ws0_mem (List.mem_append_right _ (List.mem_append_right _ (List.mem_append_right _ (List.mem_append_right _ (List.mem_append_left _ (List.mem_of_getElem? (i := 227) rfl)))))) rfl
theorem w_1001 : (.instanceMethod yX12_puts : Cond) ∈ ws0 := ws0_mem (List.mem_append_right _ (List.mem_append_right _ (List.mem_append_right _ (List.mem_append_right _ (List.mem_append_left _ (List.mem_of_getElem? (i := 229) rfl)))))) rfl
theorem w_27 : (.selects "EndlessTugModel" yX12_puts yX12_puts : Cond) ∈ ws0 := ws0_mem (List.mem_append_left _ (List.mem_of_getElem? (i := 27) (by decide +kernel))) rfl
theorem w_1002 : (cdW mX12_puts : Cond) ∈ ws0 := ws0_mem (List.mem_append_right _ (List.mem_append_right _ (List.mem_append_right _ (List.mem_append_right _ (List.mem_append_left _ (List.mem_of_getElem? (i := 230) rfl)))))) rfl
theorem kX12_88 : LkV "EndlessTugModel" 88 mX12_puts 3 := ⟨List.forall_mem_cons.mpr ⟨w_999, List.forall_mem_cons.mpr ⟨w_1001, List.forall_mem_cons.mpr ⟨w_27, List.forall_mem_cons.mpr ⟨w_65, fun _ h => absurd h List.not_mem_nil⟩⟩⟩⟩, w_1002, ⟨by decide +kernel, by decide +kernel, by decide +kernel⟩⟩
theorem w_1015 : (.methodLink "EndlessTugModel" 92 yX12_letsGo : Cond) ∈ ws0 := ws0_mem (List.mem_append_right _ (List.mem_append_right _ (List.mem_append_right _ (List.mem_append_right _ (List.mem_append_right _ (List.mem_append_left _ (List.mem_of_getElem? (i := 3) rfl))))))) rfl
theorem w_1017 : (.instanceMethod yX12_letsGo : Cond) ∈ ws0 := ws0_mem (List.mem_append_right _ (List.mem_append_right _ (List.mem_append_right _ (List.mem_append_right _ (List.mem_append_right _ (List.mem_append_left _ (List.mem_of_getElem? (i := 5) rfl))))))) rfl
theorem w_30 : (.selects "EndlessTugModel" yX12_letsGo yX12_letsGo : Cond) ∈ ws0 := ws0_mem (List.mem_append_left _ (List.mem_of_getElem? (i := 30) (by decide +kernel))) rfl
theorem w_1018 : (cdW mX12_letsGo : Cond) ∈ ws0 := ws0_mem (List.mem_append_right _ (List.mem_append_right _ (List.mem_append_right _ (List.mem_append_right _ (List.mem_append_right _ (List.mem_append_left _ (List.mem_of_getElem? (i := 6) rfl))))))) rfl
theorem kX12_92 : LkV "EndlessTugModel" 92 mX12_letsGo 1 := ⟨List.forall_mem_cons.mpr ⟨w_1015, List.forall_mem_cons.mpr ⟨w_1017, List.forall_mem_cons.mpr ⟨w_30, List.forall_mem_cons.mpr ⟨w_65, fun _ h => absurd h List.not_mem_nil⟩⟩⟩⟩, w_1018, ⟨by decide +kernel, by decide +kernel, by decide +kernel⟩⟩
theorem w_1052 : (.methodLink "EndlessTugModel" 96 yX12_knotGoes : Cond) ∈ ws0 := ws0_mem (List.mem_append_right _ (List.mem_append_right _ (List.mem_append_right _ (List.mem_append_right _ (List.mem_append_right _ (List.mem_append_left _ (List.mem_of_getElem? (i := 40) rfl))))))) rfl
theorem w_1054 : (.instanceMethod yX12_knotGoes : Cond) ∈ ws0 := ws0_mem (List.mem_append_right _ (List.mem_append_right _ (List.mem_append_right _ (List.mem_append_right _ (List.mem_append_right _ (List.mem_append_left _ (List.mem_of_getElem? (i := 42) rfl))))))) rfl
theorem w_34 : (.selects "EndlessTugModel" yX12_knotGoes yX12_knotGoes : Cond) ∈ ws0 := ws0_mem (List.mem_append_left _ (List.mem_of_getElem? (i := 34) (by decide +kernel))) rfl
theorem w_1055 : (cdW mX12_knotGoes : Cond) ∈ ws0 := ws0_mem (List.mem_append_right _ (List.mem_append_right _ (List.mem_append_right _ (List.mem_append_right _ (List.mem_append_right _ (List.mem_append_left _ (List.mem_of_getElem? (i := 43) rfl))))))) rfl
theorem kX12_96 : LkV "EndlessTugModel" 96 mX12_knotGoes 0 := ⟨List.forall_mem_cons.mpr ⟨w_1052, List.forall_mem_cons.mpr ⟨w_1054, List.forall_mem_cons.mpr ⟨w_34, List.forall_mem_cons.mpr ⟨w_65, fun _ h => absurd h List.not_mem_nil⟩⟩⟩⟩, w_1055, ⟨by decide +kernel, by decide +kernel, by decide +kernel⟩⟩
theorem w_1059 : (.methodLink "EndlessTugModel" 99 yX12_livesOn : Cond) ∈ ws0 := ws0_mem (List.mem_append_right _ (List.mem_append_right _ (List.mem_append_right _ (List.mem_append_right _ (List.mem_append_right _ (List.mem_append_left _ (List.mem_of_getElem? (i := 47) rfl))))))) rfl
theorem w_1061 : (.instanceMethod yX12_livesOn : Cond) ∈ ws0 := ws0_mem (List.mem_append_right _ (List.mem_append_right _ (List.mem_append_right _ (List.mem_append_right _ (List.mem_append_right _ (List.mem_append_left _ (List.mem_of_getElem? (i := 49) rfl))))))) rfl
theorem w_35 : (.selects "EndlessTugModel" yX12_livesOn yX12_livesOn : Cond) ∈ ws0 := ws0_mem (List.mem_append_left _ (List.mem_of_getElem? (i := 35) (by decide +kernel))) rfl
theorem w_1062 : (cdW mX12_livesOn : Cond) ∈ ws0 := ws0_mem (List.mem_append_right _ (List.mem_append_right _ (List.mem_append_right _ (List.mem_append_right _ (List.mem_append_right _ (List.mem_append_left _ (List.mem_of_getElem? (i := 50) rfl))))))) rfl
theorem kX12_99 : LkV "EndlessTugModel" 99 mX12_livesOn 1 := ⟨List.forall_mem_cons.mpr ⟨w_1059, List.forall_mem_cons.mpr ⟨w_1061, List.forall_mem_cons.mpr ⟨w_35, List.forall_mem_cons.mpr ⟨w_65, fun _ h => absurd h List.not_mem_nil⟩⟩⟩⟩, w_1062, ⟨by decide +kernel, by decide +kernel, by decide +kernel⟩⟩
theorem w_1063 : (.methodLink "EndlessTugModel" 103 yX12_someComes : Cond) ∈ ws0 := ws0_mem (List.mem_append_right _ (List.mem_append_right _ (List.mem_append_right _ (List.mem_append_right _ (List.mem_append_right _ (List.mem_append_left _ (List.mem_of_getElem? (i := 51) rfl))))))) rfl
theorem w_1065 : (.instanceMethod yX12_someComes : Cond) ∈ ws0 := ws0_mem (List.mem_append_right _ (List.mem_append_right _ (List.mem_append_right _ (List.mem_append_right _ (List.mem_append_right _ (List.mem_append_left _ (List.mem_of_getElem? (i := 53) rfl))))))) rfl
theorem w_36 : (.selects "EndlessTugModel" yX12_someComes yX12_someComes : Cond) ∈ ws0 := ws0_mem (List.mem_append_left _ (List.mem_of_getElem? (i := 36) (by decide +kernel))) rfl
theorem w_1066 : (cdW mX12_someComes : Cond) ∈ ws0 := ws0_mem (List.mem_append_right _ (List.mem_append_right _ (List.mem_append_right _ (List.mem_append_right _ (List.mem_append_right _ (List.mem_append_left _ (List.mem_of_getElem? (i := 54) rfl))))))) rfl
theorem kX12_103 : LkV "EndlessTugModel" 103 mX12_someComes 1 := ⟨List.forall_mem_cons.mpr ⟨w_1063, List.forall_mem_cons.mpr ⟨w_1065, List.forall_mem_cons.mpr ⟨w_36, List.forall_mem_cons.mpr ⟨w_65, fun _ h => absurd h List.not_mem_nil⟩⟩⟩⟩, w_1066, ⟨by decide +kernel, by decide +kernel, by decide +kernel⟩⟩
theorem w_1048 : (.methodLink "EndlessTugModel" 106 yX12_goes : Cond) ∈ ws0 := ws0_mem (List.mem_append_right _ (List.mem_append_right _ (List.mem_append_right _ (List.mem_append_right _ (List.mem_append_right _ (List.mem_append_left _ (List.mem_of_getElem? (i := 36) rfl))))))) rfl
theorem w_1050 : (.instanceMethod yX12_goes : Cond) ∈ ws0 := ws0_mem (List.mem_append_right _ (List.mem_append_right _ (List.mem_append_right _ (List.mem_append_right _ (List.mem_append_right _ (List.mem_append_left _ (List.mem_of_getElem? (i := 38) rfl))))))) rfl
theorem w_33 : (.selects "EndlessTugModel" yX12_goes yX12_goes : Cond) ∈ ws0 := ws0_mem (List.mem_append_left _ (List.mem_of_getElem? (i := 33) (by decide +kernel))) rfl
theorem w_1051 : (cdW mX12_goes : Cond) ∈ ws0 := ws0_mem (List.mem_append_right _ (List.mem_append_right _ (List.mem_append_right _ (List.mem_append_right _ (List.mem_append_right _ (List.mem_append_left _ (List.mem_of_getElem? (i := 39) rfl))))))) rfl
theorem kX12_106 : LkV "EndlessTugModel" 106 mX12_goes 1 := ⟨List.forall_mem_cons.mpr ⟨w_1048, List.forall_mem_cons.mpr ⟨w_1050, List.forall_mem_cons.mpr ⟨w_33, List.forall_mem_cons.mpr ⟨w_65, fun _ h => absurd h List.not_mem_nil⟩⟩⟩⟩, w_1051, ⟨by decide +kernel, by decide +kernel, by decide +kernel⟩⟩
theorem w_1087 : (.methodLink "EndlessTugModel" 109 yX12_towards : Cond) ∈ ws0 := ws0_mem (List.mem_append_right _ (List.mem_append_right _ (List.mem_append_right _ (List.mem_append_right _ (List.mem_append_right _ (List.mem_append_left _ (List.mem_of_getElem? (i := 75) rfl))))))) rfl
theorem w_1089 : (.instanceMethod yX12_towards : Cond) ∈ ws0 := ws0_mem (List.mem_append_right _ (List.mem_append_right _ (List.mem_append_right _ (List.mem_append_right _ (List.mem_append_right _ (List.mem_append_left _ (List.mem_of_getElem? (i := 77) rfl))))))) rfl
theorem w_39 : (.selects "EndlessTugModel" yX12_towards yX12_towards : Cond) ∈ ws0 := ws0_mem (List.mem_append_left _ (List.mem_of_getElem? (i := 39) (by decide +kernel))) rfl
theorem w_1090 : (cdW mX12_towards : Cond) ∈ ws0 := ws0_mem (List.mem_append_right _ (List.mem_append_right _ (List.mem_append_right _ (List.mem_append_right _ (List.mem_append_right _ (List.mem_append_left _ (List.mem_of_getElem? (i := 78) rfl))))))) rfl
theorem kX12_109 : LkV "EndlessTugModel" 109 mX12_towards 1 := ⟨List.forall_mem_cons.mpr ⟨w_1087, List.forall_mem_cons.mpr ⟨w_1089, List.forall_mem_cons.mpr ⟨w_39, List.forall_mem_cons.mpr ⟨w_65, fun _ h => absurd h List.not_mem_nil⟩⟩⟩⟩, w_1090, ⟨by decide +kernel, by decide +kernel, by decide +kernel⟩⟩
theorem w_1075 : (.methodLink "EndlessTugModel" 112 yX12_laysBack : Cond) ∈ ws0 := ws0_mem (List.mem_append_right _ (List.mem_append_right _ (List.mem_append_right _ (List.mem_append_right _ (List.mem_append_right _ (List.mem_append_left _ (List.mem_of_getElem? (i := 63) rfl))))))) rfl
theorem w_1077 : (.instanceMethod yX12_laysBack : Cond) ∈ ws0 := ws0_mem (List.mem_append_right _ (List.mem_append_right _ (List.mem_append_right _ (List.mem_append_right _ (List.mem_append_right _ (List.mem_append_left _ (List.mem_of_getElem? (i := 65) rfl))))))) rfl
theorem w_38 : (.selects "EndlessTugModel" yX12_laysBack yX12_laysBack : Cond) ∈ ws0 := ws0_mem (List.mem_append_left _ (List.mem_of_getElem? (i := 38) (by decide +kernel))) rfl
theorem w_1078 : (cdW mX12_laysBack : Cond) ∈ ws0 := ws0_mem (List.mem_append_right _ (List.mem_append_right _ (List.mem_append_right _ (List.mem_append_right _ (List.mem_append_right _ (List.mem_append_left _ (List.mem_of_getElem? (i := 66) rfl))))))) rfl
theorem kX12_112 : LkV "EndlessTugModel" 112 mX12_laysBack 0 := ⟨List.forall_mem_cons.mpr ⟨w_1075, List.forall_mem_cons.mpr ⟨w_1077, List.forall_mem_cons.mpr ⟨w_38, List.forall_mem_cons.mpr ⟨w_65, fun _ h => absurd h List.not_mem_nil⟩⟩⟩⟩, w_1078, ⟨by decide +kernel, by decide +kernel, by decide +kernel⟩⟩
theorem w_932 : (.methodLink "EndlessTugModel" 115 yX12_becomes : Cond) ∈ ws0 := ws0_mem (List.mem_append_right _ (List.mem_append_right _ (List.mem_append_right _ (List.mem_append_right _ (List.mem_append_left _ (List.mem_of_getElem? (i := 160) rfl)))))) rfl
theorem w_934 : (.instanceMethod yX12_becomes : Cond) ∈ ws0 := ws0_mem (List.mem_append_right _ (List.mem_append_right _ (List.mem_append_right _ (List.mem_append_right _ (List.mem_append_left _ (List.mem_of_getElem? (i := 162) rfl)))))) rfl
theorem w_16 : (.selects "EndlessTugModel" yX12_becomes yX12_becomes : Cond) ∈ ws0 := ws0_mem (List.mem_append_left _ (List.mem_of_getElem? (i := 16) (by decide +kernel))) rfl
theorem w_935 : (cdW mX12_becomes : Cond) ∈ ws0 := ws0_mem (List.mem_append_right _ (List.mem_append_right _ (List.mem_append_right _ (List.mem_append_right _ (List.mem_append_left _ (List.mem_of_getElem? (i := 163) rfl)))))) rfl
theorem kX12_115 : LkV "EndlessTugModel" 115 mX12_becomes 2 := ⟨List.forall_mem_cons.mpr ⟨w_932, List.forall_mem_cons.mpr ⟨w_934, List.forall_mem_cons.mpr ⟨w_16, List.forall_mem_cons.mpr ⟨w_65, fun _ h => absurd h List.not_mem_nil⟩⟩⟩⟩, w_935, ⟨by decide +kernel, by decide +kernel, by decide +kernel⟩⟩
theorem w_936 : (.methodLink "EndlessTugModel" 118 yX12_no : Cond) ∈ ws0 := ws0_mem (List.mem_append_right _ (List.mem_append_right _ (List.mem_append_right _ (List.mem_append_right _ (List.mem_append_left _ (List.mem_of_getElem? (i := 164) rfl)))))) rfl
theorem w_938 : (.instanceMethod yX12_no : Cond) ∈ ws0 := ws0_mem (List.mem_append_right _ (List.mem_append_right _ (List.mem_append_right _ (List.mem_append_right _ (List.mem_append_left _ (List.mem_of_getElem? (i := 166) rfl)))))) rfl
theorem w_17 : (.selects "EndlessTugModel" yX12_no yX12_no : Cond) ∈ ws0 := ws0_mem (List.mem_append_left _ (List.mem_of_getElem? (i := 17) (by decide +kernel))) rfl
theorem w_939 : (cdW mX12_no : Cond) ∈ ws0 := ws0_mem (List.mem_append_right _ (List.mem_append_right _ (List.mem_append_right _ (List.mem_append_right _ (List.mem_append_left _ (List.mem_of_getElem? (i := 167) rfl)))))) rfl
theorem kX12_118 : LkV "EndlessTugModel" 118 mX12_no 1 := ⟨List.forall_mem_cons.mpr ⟨w_936, List.forall_mem_cons.mpr ⟨w_938, List.forall_mem_cons.mpr ⟨w_17, List.forall_mem_cons.mpr ⟨w_65, fun _ h => absurd h List.not_mem_nil⟩⟩⟩⟩, w_939, ⟨by decide +kernel, by decide +kernel, by decide +kernel⟩⟩
theorem w_949 : (.methodLink "EndlessTugModel" 121 yX12_isKnot : Cond) ∈ ws0 := ws0_mem (List.mem_append_right _ (List.mem_append_right _ (List.mem_append_right _ (List.mem_append_right _ (List.mem_append_left _ (List.mem_of_getElem? (i := 177) rfl)))))) rfl
theorem w_950 : (.static yX12_isKnot : Cond) ∈ ws0 := ws0_mem (List.mem_append_right _ (List.mem_append_right _ (List.mem_append_right _ (List.mem_append_right _ (List.mem_append_left _ (List.mem_of_getElem? (i := 178) rfl)))))) rfl
theorem w_951 : (cdW mX12_isKnot : Cond) ∈ ws0 := ws0_mem (List.mem_append_right _ (List.mem_append_right _ (List.mem_append_right _ (List.mem_append_right _ (List.mem_append_left _ (List.mem_of_getElem? (i := 179) rfl)))))) rfl
theorem kX12_121 : LkS "EndlessTugModel" 121 mX12_isKnot 1 := ⟨List.forall_mem_cons.mpr ⟨w_949, List.forall_mem_cons.mpr ⟨w_950, List.forall_mem_cons.mpr ⟨w_65, fun _ h => absurd h List.not_mem_nil⟩⟩⟩, w_951, ⟨by decide +kernel, by decide +kernel, by decide +kernel⟩⟩
theorem w_972 : (.methodLink "EndlessTugModel" 124 yX12_onRope : Cond) ∈ ws0 := ws0_mem (List.mem_append_right _ (List.mem_append_right _ (List.mem_append_right _ (List.mem_append_right _ (List.mem_append_left _ (List.mem_of_getElem? (i := 200) rfl)))))) rfl
theorem w_974 : (.instanceMethod yX12_onRope : Cond) ∈ ws0 := ws0_mem (List.mem_append_right _ (List.mem_append_right _ (List.mem_append_right _ (List.mem_append_right _ (List.mem_append_left _ (List.mem_of_getElem? (i := 202) rfl)))))) rfl
theorem w_22 : (.selects "EndlessTugModel" yX12_onRope yX12_onRope : Cond) ∈ ws0 := ws0_mem (List.mem_append_left _ (List.mem_of_getElem? (i := 22) (by decide +kernel))) rfl
theorem w_975 : (cdW mX12_onRope : Cond) ∈ ws0 := ws0_mem (List.mem_append_right _ (List.mem_append_right _ (List.mem_append_right _ (List.mem_append_right _ (List.mem_append_left _ (List.mem_of_getElem? (i := 203) rfl)))))) rfl
theorem kX12_124 : LkV "EndlessTugModel" 124 mX12_onRope 0 := ⟨List.forall_mem_cons.mpr ⟨w_972, List.forall_mem_cons.mpr ⟨w_974, List.forall_mem_cons.mpr ⟨w_22, List.forall_mem_cons.mpr ⟨w_65, fun _ h => absurd h List.not_mem_nil⟩⟩⟩⟩, w_975, ⟨by decide +kernel, by decide +kernel, by decide +kernel⟩⟩
theorem w_992 : (.methodLink "EndlessTugModel" 127 yX12_isSide : Cond) ∈ ws0 := ws0_mem (List.mem_append_right _ (List.mem_append_right _ (List.mem_append_right _ (List.mem_append_right _ (List.mem_append_left _ (List.mem_of_getElem? (i := 220) rfl)))))) rfl
theorem w_993 : (.static yX12_isSide : Cond) ∈ ws0 := ws0_mem (List.mem_append_right _ (List.mem_append_right _ (List.mem_append_right _ (List.mem_append_right _ (List.mem_append_left _ (List.mem_of_getElem? (i := 221) rfl)))))) rfl
theorem w_994 : (cdW mX12_isSide : Cond) ∈ ws0 := ws0_mem (List.mem_append_right _ (List.mem_append_right _ (List.mem_append_right _ (List.mem_append_right _ (List.mem_append_left _ (List.mem_of_getElem? (i := 222) rfl)))))) rfl
theorem kX12_127 : LkS "EndlessTugModel" 127 mX12_isSide 1 := ⟨List.forall_mem_cons.mpr ⟨w_992, List.forall_mem_cons.mpr ⟨w_993, List.forall_mem_cons.mpr ⟨w_65, fun _ h => absurd h List.not_mem_nil⟩⟩⟩, w_994, ⟨by decide +kernel, by decide +kernel, by decide +kernel⟩⟩
theorem w_995 : (.methodLink "EndlessTugModel" 130 yX12_addsPerson : Cond) ∈ ws0 := ws0_mem (List.mem_append_right _ (List.mem_append_right _ (List.mem_append_right _ (List.mem_append_right _ (List.mem_append_left _ (List.mem_of_getElem? (i := 223) rfl)))))) rfl
theorem w_997 : (.instanceMethod yX12_addsPerson : Cond) ∈ ws0 := ws0_mem (List.mem_append_right _ (List.mem_append_right _ (List.mem_append_right _ (List.mem_append_right _ (List.mem_append_left _ (List.mem_of_getElem? (i := 225) rfl)))))) rfl
theorem w_26 : (.selects "EndlessTugModel" yX12_addsPerson yX12_addsPerson : Cond) ∈ ws0 := ws0_mem (List.mem_append_left _ (List.mem_of_getElem? (i := 26) (by decide +kernel))) rfl
theorem w_998 : (cdW mX12_addsPerson : Cond) ∈ ws0 := ws0_mem (List.mem_append_right _ (List.mem_append_right _ (List.mem_append_right _ (List.mem_append_right _ (List.mem_append_left _ (List.mem_of_getElem? (i := 226) rfl)))))) rfl
theorem kX12_130 : LkV "EndlessTugModel" 130 mX12_addsPerson 2 := ⟨List.forall_mem_cons.mpr ⟨w_995, List.forall_mem_cons.mpr ⟨w_997, List.forall_mem_cons.mpr ⟨w_26, List.forall_mem_cons.mpr ⟨w_65, fun _ h => absurd h List.not_mem_nil⟩⟩⟩⟩, w_998, ⟨by decide +kernel, by decide +kernel, by decide +kernel⟩⟩
theorem w_1007 : (.methodLink "EndlessTugModel" 134 yX12_isPerson : Cond) ∈ ws0 := ws0_mem (List.mem_append_right _ (List.mem_append_right _ (List.mem_append_right _ (List.mem_append_right _ (List.mem_append_left _ (List.mem_of_getElem? (i := 235) rfl)))))) rfl
theorem w_1009 : (.instanceMethod yX12_isPerson : Cond) ∈ ws0 := ws0_mem (List.mem_append_right _ (List.mem_append_right _ (List.mem_append_right _ (List.mem_append_right _ (List.mem_append_left _ (List.mem_of_getElem? (i := 237) rfl)))))) rfl
theorem w_28 : (.selects "EndlessTugModel" yX12_isPerson yX12_isPerson : Cond) ∈ ws0 := ws0_mem (List.mem_append_left _ (List.mem_of_getElem? (i := 28) (by decide +kernel))) rfl
theorem w_1010 : (cdW mX12_isPerson : Cond) ∈ ws0 := ws0_mem (List.mem_append_right _ (List.mem_append_right _ (List.mem_append_right _ (List.mem_append_right _ (List.mem_append_left _ (List.mem_of_getElem? (i := 238) rfl)))))) rfl
theorem kX12_134 : LkV "EndlessTugModel" 134 mX12_isPerson 1 := ⟨List.forall_mem_cons.mpr ⟨w_1007, List.forall_mem_cons.mpr ⟨w_1009, List.forall_mem_cons.mpr ⟨w_28, List.forall_mem_cons.mpr ⟨w_65, fun _ h => absurd h List.not_mem_nil⟩⟩⟩⟩, w_1010, ⟨by decide +kernel, by decide +kernel, by decide +kernel⟩⟩
theorem w_1035 : (.methodLink "EndlessTugModel" 137 yX12_mayRelieve : Cond) ∈ ws0 := ws0_mem (List.mem_append_right _ (List.mem_append_right _ (List.mem_append_right _ (List.mem_append_right _ (List.mem_append_right _ (List.mem_append_left _ (List.mem_of_getElem? (i := 23) rfl))))))) rfl
theorem w_1037 : (.instanceMethod yX12_mayRelieve : Cond) ∈ ws0 := ws0_mem (List.mem_append_right _ (List.mem_append_right _ (List.mem_append_right _ (List.mem_append_right _ (List.mem_append_right _ (List.mem_append_left _ (List.mem_of_getElem? (i := 25) rfl))))))) rfl
theorem w_31 : (.selects "EndlessTugModel" yX12_mayRelieve yX12_mayRelieve : Cond) ∈ ws0 := ws0_mem (List.mem_append_left _ (List.mem_of_getElem? (i := 31) (by decide +kernel))) rfl
theorem w_1038 : (cdW mX12_mayRelieve : Cond) ∈ ws0 := ws0_mem (List.mem_append_right _ (List.mem_append_right _ (List.mem_append_right _ (List.mem_append_right _ (List.mem_append_right _ (List.mem_append_left _ (List.mem_of_getElem? (i := 26) rfl))))))) rfl
theorem kX12_137 : LkV "EndlessTugModel" 137 mX12_mayRelieve 2 := ⟨List.forall_mem_cons.mpr ⟨w_1035, List.forall_mem_cons.mpr ⟨w_1037, List.forall_mem_cons.mpr ⟨w_31, List.forall_mem_cons.mpr ⟨w_65, fun _ h => absurd h List.not_mem_nil⟩⟩⟩⟩, w_1038, ⟨by decide +kernel, by decide +kernel, by decide +kernel⟩⟩
theorem w_1039 : (.methodLink "EndlessTugModel" 141 yX12_relieves : Cond) ∈ ws0 := ws0_mem (List.mem_append_right _ (List.mem_append_right _ (List.mem_append_right _ (List.mem_append_right _ (List.mem_append_right _ (List.mem_append_left _ (List.mem_of_getElem? (i := 27) rfl))))))) rfl
theorem w_1041 : (.instanceMethod yX12_relieves : Cond) ∈ ws0 := ws0_mem (List.mem_append_right _ (List.mem_append_right _ (List.mem_append_right _ (List.mem_append_right _ (List.mem_append_right _ (List.mem_append_left _ (List.mem_of_getElem? (i := 29) rfl))))))) rfl
theorem w_32 : (.selects "EndlessTugModel" yX12_relieves yX12_relieves : Cond) ∈ ws0 := ws0_mem (List.mem_append_left _ (List.mem_of_getElem? (i := 32) (by decide +kernel))) rfl
theorem w_1042 : (cdW mX12_relieves : Cond) ∈ ws0 := ws0_mem (List.mem_append_right _ (List.mem_append_right _ (List.mem_append_right _ (List.mem_append_right _ (List.mem_append_right _ (List.mem_append_left _ (List.mem_of_getElem? (i := 30) rfl))))))) rfl
theorem kX12_141 : LkV "EndlessTugModel" 141 mX12_relieves 2 := ⟨List.forall_mem_cons.mpr ⟨w_1039, List.forall_mem_cons.mpr ⟨w_1041, List.forall_mem_cons.mpr ⟨w_32, List.forall_mem_cons.mpr ⟨w_65, fun _ h => absurd h List.not_mem_nil⟩⟩⟩⟩, w_1042, ⟨by decide +kernel, by decide +kernel, by decide +kernel⟩⟩
theorem w_1071 : (.methodLink "EndlessTugModel" 145 yX12_setsAside : Cond) ∈ ws0 := ws0_mem (List.mem_append_right _ (List.mem_append_right _ (List.mem_append_right _ (List.mem_append_right _ (List.mem_append_right _ (List.mem_append_left _ (List.mem_of_getElem? (i := 59) rfl))))))) rfl
theorem w_1073 : (.instanceMethod yX12_setsAside : Cond) ∈ ws0 := ws0_mem (List.mem_append_right _ (List.mem_append_right _ (List.mem_append_right _ (List.mem_append_right _ (List.mem_append_right _ (List.mem_append_left _ (List.mem_of_getElem? (i := 61) rfl))))))) rfl
theorem w_37 : (.selects "EndlessTugModel" yX12_setsAside yX12_setsAside : Cond) ∈ ws0 := ws0_mem (List.mem_append_left _ (List.mem_of_getElem? (i := 37) (by decide +kernel))) rfl
theorem w_1074 : (cdW mX12_setsAside : Cond) ∈ ws0 := ws0_mem (List.mem_append_right _ (List.mem_append_right _ (List.mem_append_right _ (List.mem_append_right _ (List.mem_append_right _ (List.mem_append_left _ (List.mem_of_getElem? (i := 62) rfl))))))) rfl
theorem kX12_145 : LkV "EndlessTugModel" 145 mX12_setsAside 0 := ⟨List.forall_mem_cons.mpr ⟨w_1071, List.forall_mem_cons.mpr ⟨w_1073, List.forall_mem_cons.mpr ⟨w_37, List.forall_mem_cons.mpr ⟨w_65, fun _ h => absurd h List.not_mem_nil⟩⟩⟩⟩, w_1074, ⟨by decide +kernel, by decide +kernel, by decide +kernel⟩⟩
theorem w_1103 : (.methodLink "EndlessTugModel" 148 yX12_towardsBy : Cond) ∈ ws0 := ws0_mem (List.mem_append_right _ (List.mem_append_right _ (List.mem_append_right _ (List.mem_append_right _ (List.mem_append_right _ (List.mem_append_left _ (List.mem_of_getElem? (i := 91) rfl))))))) rfl
theorem w_1105 : (.instanceMethod yX12_towardsBy : Cond) ∈ ws0 := ws0_mem (List.mem_append_right _ (List.mem_append_right _ (List.mem_append_right _ (List.mem_append_right _ (List.mem_append_right _ (List.mem_append_left _ (List.mem_of_getElem? (i := 93) rfl))))))) rfl
theorem w_40 : (.selects "EndlessTugModel" yX12_towardsBy yX12_towardsBy : Cond) ∈ ws0 := ws0_mem (List.mem_append_left _ (List.mem_of_getElem? (i := 40) (by decide +kernel))) rfl
theorem w_1106 : (cdW mX12_towardsBy : Cond) ∈ ws0 := ws0_mem (List.mem_append_right _ (List.mem_append_right _ (List.mem_append_right _ (List.mem_append_right _ (List.mem_append_right _ (List.mem_append_left _ (List.mem_of_getElem? (i := 94) rfl))))))) rfl
theorem kX12_148 : LkV "EndlessTugModel" 148 mX12_towardsBy 2 := ⟨List.forall_mem_cons.mpr ⟨w_1103, List.forall_mem_cons.mpr ⟨w_1105, List.forall_mem_cons.mpr ⟨w_40, List.forall_mem_cons.mpr ⟨w_65, fun _ h => absurd h List.not_mem_nil⟩⟩⟩⟩, w_1106, ⟨by decide +kernel, by decide +kernel, by decide +kernel⟩⟩
theorem w_1127 : (.methodLink "EndlessTugModel" 151 yX12_ones : Cond) ∈ ws0 := ws0_mem (List.mem_append_right _ (List.mem_append_right _ (List.mem_append_right _ (List.mem_append_right _ (List.mem_append_right _ (List.mem_append_left _ (List.mem_of_getElem? (i := 115) rfl))))))) rfl
theorem w_1128 : (.static yX12_ones : Cond) ∈ ws0 := ws0_mem (List.mem_append_right _ (List.mem_append_right _ (List.mem_append_right _ (List.mem_append_right _ (List.mem_append_right _ (List.mem_append_left _ (List.mem_of_getElem? (i := 116) rfl))))))) rfl
theorem w_1129 : (cdW mX12_ones : Cond) ∈ ws0 := ws0_mem (List.mem_append_right _ (List.mem_append_right _ (List.mem_append_right _ (List.mem_append_right _ (List.mem_append_right _ (List.mem_append_left _ (List.mem_of_getElem? (i := 117) rfl))))))) rfl
theorem kX12_151 : LkS "EndlessTugModel" 151 mX12_ones 1 := ⟨List.forall_mem_cons.mpr ⟨w_1127, List.forall_mem_cons.mpr ⟨w_1128, List.forall_mem_cons.mpr ⟨w_65, fun _ h => absurd h List.not_mem_nil⟩⟩⟩, w_1129, ⟨by decide +kernel, by decide +kernel, by decide +kernel⟩⟩
theorem w_1150 : (.methodLink "EndlessTugModel" 171 yX12_isLetter : Cond) ∈ ws0 := ws0_mem (List.mem_append_right _ (List.mem_append_right _ (List.mem_append_right _ (List.mem_append_right _ (List.mem_append_right _ (List.mem_append_left _ (List.mem_of_getElem? (i := 138) rfl))))))) rfl
theorem w_1151 : (.static yX12_isLetter : Cond) ∈ ws0 := ws0_mem (List.mem_append_right _ (List.mem_append_right _ (List.mem_append_right _ (List.mem_append_right _ (List.mem_append_right _ (List.mem_append_left _ (List.mem_of_getElem? (i := 139) rfl))))))) rfl
theorem w_1152 : (cdW mX12_isLetter : Cond) ∈ ws0 := ws0_mem (List.mem_append_right _ (List.mem_append_right _ (List.mem_append_right _ (List.mem_append_right _ (List.mem_append_right _ (List.mem_append_left _ (List.mem_of_getElem? (i := 140) rfl))))))) rfl
theorem kX12_171 : LkS "EndlessTugModel" 171 mX12_isLetter 1 := ⟨List.forall_mem_cons.mpr ⟨w_1150, List.forall_mem_cons.mpr ⟨w_1151, List.forall_mem_cons.mpr ⟨w_65, fun _ h => absurd h List.not_mem_nil⟩⟩⟩, w_1152, ⟨by decide +kernel, by decide +kernel, by decide +kernel⟩⟩
theorem w_1156 : (.methodLink "EndlessTugModel" 180 yX12_isDigit : Cond) ∈ ws0 := ws0_mem (List.mem_append_right _ (List.mem_append_right _ (List.mem_append_right _ (List.mem_append_right _ (List.mem_append_right _ (List.mem_append_left _ (List.mem_of_getElem? (i := 144) rfl))))))) rfl
theorem w_1157 : (.static yX12_isDigit : Cond) ∈ ws0 := ws0_mem (List.mem_append_right _ (List.mem_append_right _ (List.mem_append_right _ (List.mem_append_right _ (List.mem_append_right _ (List.mem_append_left _ (List.mem_of_getElem? (i := 145) rfl))))))) rfl
theorem w_1158 : (cdW mX12_isDigit : Cond) ∈ ws0 := ws0_mem (List.mem_append_right _ (List.mem_append_right _ (List.mem_append_right _ (List.mem_append_right _ (List.mem_append_right _ (List.mem_append_left _ (List.mem_of_getElem? (i := 146) rfl))))))) rfl
theorem kX12_180 : LkS "EndlessTugModel" 180 mX12_isDigit 1 := ⟨List.forall_mem_cons.mpr ⟨w_1156, List.forall_mem_cons.mpr ⟨w_1157, List.forall_mem_cons.mpr ⟨w_65, fun _ h => absurd h List.not_mem_nil⟩⟩⟩, w_1158, ⟨by decide +kernel, by decide +kernel, by decide +kernel⟩⟩
theorem w_1146 : (.methodLink "EndlessTugModel" 189 yX12_nextToken : Cond) ∈ ws0 := ws0_mem (List.mem_append_right _ (List.mem_append_right _ (List.mem_append_right _ (List.mem_append_right _ (List.mem_append_right _ (List.mem_append_left _ (List.mem_of_getElem? (i := 134) rfl))))))) rfl
theorem w_1148 : (.instanceMethod yX12_nextToken : Cond) ∈ ws0 := ws0_mem (List.mem_append_right _ (List.mem_append_right _ (List.mem_append_right _ (List.mem_append_right _ (List.mem_append_right _ (List.mem_append_left _ (List.mem_of_getElem? (i := 136) rfl))))))) rfl
theorem w_41 : (.selects "EndlessTugModel" yX12_nextToken yX12_nextToken : Cond) ∈ ws0 := ws0_mem (List.mem_append_left _ (List.mem_of_getElem? (i := 41) (by decide +kernel))) rfl
theorem w_1149 : (cdW mX12_nextToken : Cond) ∈ ws0 := ws0_mem (List.mem_append_right _ (List.mem_append_right _ (List.mem_append_right _ (List.mem_append_right _ (List.mem_append_right _ (List.mem_append_left _ (List.mem_of_getElem? (i := 137) rfl))))))) rfl
theorem kX12_189 : LkV "EndlessTugModel" 189 mX12_nextToken 0 := ⟨List.forall_mem_cons.mpr ⟨w_1146, List.forall_mem_cons.mpr ⟨w_1148, List.forall_mem_cons.mpr ⟨w_41, List.forall_mem_cons.mpr ⟨w_65, fun _ h => absurd h List.not_mem_nil⟩⟩⟩⟩, w_1149, ⟨by decide +kernel, by decide +kernel, by decide +kernel⟩⟩
theorem w_1166 : (.methodLink "EndlessTugModel" 192 yX12_wordOf : Cond) ∈ ws0 := ws0_mem (List.mem_append_right _ (List.mem_append_right _ (List.mem_append_right _ (List.mem_append_right _ (List.mem_append_right _ (List.mem_append_left _ (List.mem_of_getElem? (i := 154) rfl))))))) rfl
theorem w_1168 : (.instanceMethod yX12_wordOf : Cond) ∈ ws0 := ws0_mem (List.mem_append_right _ (List.mem_append_right _ (List.mem_append_right _ (List.mem_append_right _ (List.mem_append_right _ (List.mem_append_left _ (List.mem_of_getElem? (i := 156) rfl))))))) rfl
theorem w_43 : (.selects "EndlessTugModel" yX12_wordOf yX12_wordOf : Cond) ∈ ws0 := ws0_mem (List.mem_append_left _ (List.mem_of_getElem? (i := 43) (by decide +kernel))) rfl
theorem w_1169 : (cdW mX12_wordOf : Cond) ∈ ws0 := ws0_mem (List.mem_append_right _ (List.mem_append_right _ (List.mem_append_right _ (List.mem_append_right _ (List.mem_append_right _ (List.mem_append_left _ (List.mem_of_getElem? (i := 157) rfl))))))) rfl
theorem kX12_192 : LkV "EndlessTugModel" 192 mX12_wordOf 1 := ⟨List.forall_mem_cons.mpr ⟨w_1166, List.forall_mem_cons.mpr ⟨w_1168, List.forall_mem_cons.mpr ⟨w_43, List.forall_mem_cons.mpr ⟨w_65, fun _ h => absurd h List.not_mem_nil⟩⟩⟩⟩, w_1169, ⟨by decide +kernel, by decide +kernel, by decide +kernel⟩⟩
theorem w_1174 : (.methodLink "EndlessTugModel" 196 yX12_takesNumber : Cond) ∈ ws0 := ws0_mem (List.mem_append_right _ (List.mem_append_right _ (List.mem_append_right _ (List.mem_append_right _ (List.mem_append_right _ (List.mem_append_left _ (List.mem_of_getElem? (i := 162) rfl))))))) rfl
theorem w_1176 : (.instanceMethod yX12_takesNumber : Cond) ∈ ws0 := ws0_mem (List.mem_append_right _ (List.mem_append_right _ (List.mem_append_right _ (List.mem_append_right _ (List.mem_append_right _ (List.mem_append_left _ (List.mem_of_getElem? (i := 164) rfl))))))) rfl
theorem w_45 : (.selects "EndlessTugModel" yX12_takesNumber yX12_takesNumber : Cond) ∈ ws0 := ws0_mem (List.mem_append_left _ (List.mem_of_getElem? (i := 45) (by decide +kernel))) rfl
theorem w_1177 : (cdW mX12_takesNumber : Cond) ∈ ws0 := ws0_mem (List.mem_append_right _ (List.mem_append_right _ (List.mem_append_right _ (List.mem_append_right _ (List.mem_append_right _ (List.mem_append_left _ (List.mem_of_getElem? (i := 165) rfl))))))) rfl
theorem kX12_196 : LkV "EndlessTugModel" 196 mX12_takesNumber 2 := ⟨List.forall_mem_cons.mpr ⟨w_1174, List.forall_mem_cons.mpr ⟨w_1176, List.forall_mem_cons.mpr ⟨w_45, List.forall_mem_cons.mpr ⟨w_65, fun _ h => absurd h List.not_mem_nil⟩⟩⟩⟩, w_1177, ⟨by decide +kernel, by decide +kernel, by decide +kernel⟩⟩
theorem w_1170 : (.methodLink "EndlessTugModel" 199 yX12_readsPerson : Cond) ∈ ws0 := ws0_mem (List.mem_append_right _ (List.mem_append_right _ (List.mem_append_right _ (List.mem_append_right _ (List.mem_append_right _ (List.mem_append_left _ (List.mem_of_getElem? (i := 158) rfl))))))) rfl
theorem w_1172 : (.instanceMethod yX12_readsPerson : Cond) ∈ ws0 := ws0_mem (List.mem_append_right _ (List.mem_append_right _ (List.mem_append_right _ (List.mem_append_right _ (List.mem_append_right _ (List.mem_append_left _ (List.mem_of_getElem? (i := 160) rfl))))))) rfl
theorem w_44 : (.selects "EndlessTugModel" yX12_readsPerson yX12_readsPerson : Cond) ∈ ws0 := ws0_mem (List.mem_append_left _ (List.mem_of_getElem? (i := 44) (by decide +kernel))) rfl
theorem w_1173 : (cdW mX12_readsPerson : Cond) ∈ ws0 := ws0_mem (List.mem_append_right _ (List.mem_append_right _ (List.mem_append_right _ (List.mem_append_right _ (List.mem_append_right _ (List.mem_append_left _ (List.mem_of_getElem? (i := 161) rfl))))))) rfl
theorem kX12_199 : LkV "EndlessTugModel" 199 mX12_readsPerson 1 := ⟨List.forall_mem_cons.mpr ⟨w_1170, List.forall_mem_cons.mpr ⟨w_1172, List.forall_mem_cons.mpr ⟨w_44, List.forall_mem_cons.mpr ⟨w_65, fun _ h => absurd h List.not_mem_nil⟩⟩⟩⟩, w_1173, ⟨by decide +kernel, by decide +kernel, by decide +kernel⟩⟩
theorem w_1178 : (.methodLink "EndlessTugModel" 202 yX12_readsWeek : Cond) ∈ ws0 := ws0_mem (List.mem_append_right _ (List.mem_append_right _ (List.mem_append_right _ (List.mem_append_right _ (List.mem_append_right _ (List.mem_append_left _ (List.mem_of_getElem? (i := 166) rfl))))))) rfl
theorem w_1180 : (.instanceMethod yX12_readsWeek : Cond) ∈ ws0 := ws0_mem (List.mem_append_right _ (List.mem_append_right _ (List.mem_append_right _ (List.mem_append_right _ (List.mem_append_right _ (List.mem_append_left _ (List.mem_of_getElem? (i := 168) rfl))))))) rfl
theorem w_46 : (.selects "EndlessTugModel" yX12_readsWeek yX12_readsWeek : Cond) ∈ ws0 := ws0_mem (List.mem_append_left _ (List.mem_of_getElem? (i := 46) (by decide +kernel))) rfl
theorem w_1181 : (cdW mX12_readsWeek : Cond) ∈ ws0 := ws0_mem (List.mem_append_right _ (List.mem_append_right _ (List.mem_append_right _ (List.mem_append_right _ (List.mem_append_right _ (List.mem_append_left _ (List.mem_of_getElem? (i := 169) rfl))))))) rfl
theorem kX12_202 : LkV "EndlessTugModel" 202 mX12_readsWeek 1 := ⟨List.forall_mem_cons.mpr ⟨w_1178, List.forall_mem_cons.mpr ⟨w_1180, List.forall_mem_cons.mpr ⟨w_46, List.forall_mem_cons.mpr ⟨w_65, fun _ h => absurd h List.not_mem_nil⟩⟩⟩⟩, w_1181, ⟨by decide +kernel, by decide +kernel, by decide +kernel⟩⟩
theorem w_1182 : (.methodLink "EndlessTugModel" 206 yX12_readsKnot : Cond) ∈ ws0 := ws0_mem (List.mem_append_right _ (List.mem_append_right _ (List.mem_append_right _ (List.mem_append_right _ (List.mem_append_right _ (List.mem_append_left _ (List.mem_of_getElem? (i := 170) rfl))))))) rfl
theorem w_1184 : (.instanceMethod yX12_readsKnot : Cond) ∈ ws0 := ws0_mem (List.mem_append_right _ (List.mem_append_right _ (List.mem_append_right _ (List.mem_append_right _ (List.mem_append_right _ (List.mem_append_left _ (List.mem_of_getElem? (i := 172) rfl))))))) rfl
theorem w_47 : (.selects "EndlessTugModel" yX12_readsKnot yX12_readsKnot : Cond) ∈ ws0 := ws0_mem (List.mem_append_left _ (List.mem_of_getElem? (i := 47) (by decide +kernel))) rfl
theorem w_1185 : (cdW mX12_readsKnot : Cond) ∈ ws0 := ws0_mem (List.mem_append_right _ (List.mem_append_right _ (List.mem_append_right _ (List.mem_append_right _ (List.mem_append_right _ (List.mem_append_left _ (List.mem_of_getElem? (i := 173) rfl))))))) rfl
theorem kX12_206 : LkV "EndlessTugModel" 206 mX12_readsKnot 0 := ⟨List.forall_mem_cons.mpr ⟨w_1182, List.forall_mem_cons.mpr ⟨w_1184, List.forall_mem_cons.mpr ⟨w_47, List.forall_mem_cons.mpr ⟨w_65, fun _ h => absurd h List.not_mem_nil⟩⟩⟩⟩, w_1185, ⟨by decide +kernel, by decide +kernel, by decide +kernel⟩⟩
theorem w_1162 : (.methodLink "EndlessTugModel" 209 yX12_readsItem : Cond) ∈ ws0 := ws0_mem (List.mem_append_right _ (List.mem_append_right _ (List.mem_append_right _ (List.mem_append_right _ (List.mem_append_right _ (List.mem_append_left _ (List.mem_of_getElem? (i := 150) rfl))))))) rfl
theorem w_1164 : (.instanceMethod yX12_readsItem : Cond) ∈ ws0 := ws0_mem (List.mem_append_right _ (List.mem_append_right _ (List.mem_append_right _ (List.mem_append_right _ (List.mem_append_right _ (List.mem_append_left _ (List.mem_of_getElem? (i := 152) rfl))))))) rfl
theorem w_42 : (.selects "EndlessTugModel" yX12_readsItem yX12_readsItem : Cond) ∈ ws0 := ws0_mem (List.mem_append_left _ (List.mem_of_getElem? (i := 42) (by decide +kernel))) rfl
theorem w_1165 : (cdW mX12_readsItem : Cond) ∈ ws0 := ws0_mem (List.mem_append_right _ (List.mem_append_right _ (List.mem_append_right _ (List.mem_append_right _ (List.mem_append_right _ (List.mem_append_left _ (List.mem_of_getElem? (i := 153) rfl))))))) rfl
theorem kX12_209 : LkV "EndlessTugModel" 209 mX12_readsItem 0 := ⟨List.forall_mem_cons.mpr ⟨w_1162, List.forall_mem_cons.mpr ⟨w_1164, List.forall_mem_cons.mpr ⟨w_42, List.forall_mem_cons.mpr ⟨w_65, fun _ h => absurd h List.not_mem_nil⟩⟩⟩⟩, w_1165, ⟨by decide +kernel, by decide +kernel, by decide +kernel⟩⟩
theorem w_1190 : (.methodLink "EndlessTugModel" 212 yX12_isSheet : Cond) ∈ ws0 := ws0_mem (List.mem_append_right _ (List.mem_append_right _ (List.mem_append_right _ (List.mem_append_right _ (List.mem_append_right _ (List.mem_append_left _ (List.mem_of_getElem? (i := 178) rfl))))))) rfl
theorem w_1191 : (.static yX12_isSheet : Cond) ∈ ws0 := ws0_mem (List.mem_append_right _ (List.mem_append_right _ (List.mem_append_right _ (List.mem_append_right _ (List.mem_append_right _ (List.mem_append_left _ (List.mem_of_getElem? (i := 179) rfl))))))) rfl
theorem w_1192 : (cdW mX12_isSheet : Cond) ∈ ws0 := ws0_mem (List.mem_append_right _ (List.mem_append_right _ (List.mem_append_right _ (List.mem_append_right _ (List.mem_append_right _ (List.mem_append_left _ (List.mem_of_getElem? (i := 180) rfl))))))) rfl
theorem kX12_212 : LkS "EndlessTugModel" 212 mX12_isSheet 1 := ⟨List.forall_mem_cons.mpr ⟨w_1190, List.forall_mem_cons.mpr ⟨w_1191, List.forall_mem_cons.mpr ⟨w_65, fun _ h => absurd h List.not_mem_nil⟩⟩⟩, w_1192, ⟨by decide +kernel, by decide +kernel, by decide +kernel⟩⟩
theorem w_1197 : (.methodLink "EndlessTugModel" 215 yX12_wrongSheet : Cond) ∈ ws0 := ws0_mem (List.mem_append_right _ (List.mem_append_right _ (List.mem_append_right _ (List.mem_append_right _ (List.mem_append_right _ (List.mem_append_left _ (List.mem_of_getElem? (i := 185) rfl))))))) rfl
theorem w_1199 : (.instanceMethod yX12_wrongSheet : Cond) ∈ ws0 := ws0_mem (List.mem_append_right _ (List.mem_append_right _ (List.mem_append_right _ (List.mem_append_right _ (List.mem_append_right _ (List.mem_append_left _ (List.mem_of_getElem? (i := 187) rfl))))))) rfl
theorem w_48 : (.selects "EndlessTugModel" yX12_wrongSheet yX12_wrongSheet : Cond) ∈ ws0 := ws0_mem (List.mem_append_left _ (List.mem_of_getElem? (i := 48) (by decide +kernel))) rfl
theorem w_1200 : (cdW mX12_wrongSheet : Cond) ∈ ws0 := ws0_mem (List.mem_append_right _ (List.mem_append_right _ (List.mem_append_right _ (List.mem_append_right _ (List.mem_append_right _ (List.mem_append_left _ (List.mem_of_getElem? (i := 188) rfl))))))) rfl
theorem kX12_215 : LkV "EndlessTugModel" 215 mX12_wrongSheet 1 := ⟨List.forall_mem_cons.mpr ⟨w_1197, List.forall_mem_cons.mpr ⟨w_1199, List.forall_mem_cons.mpr ⟨w_48, List.forall_mem_cons.mpr ⟨w_65, fun _ h => absurd h List.not_mem_nil⟩⟩⟩⟩, w_1200, ⟨by decide +kernel, by decide +kernel, by decide +kernel⟩⟩
theorem w_1201 : (.methodLink "EndlessTugModel" 218 yX12_told : Cond) ∈ ws0 := ws0_mem (List.mem_append_right _ (List.mem_append_right _ (List.mem_append_right _ (List.mem_append_right _ (List.mem_append_right _ (List.mem_append_left _ (List.mem_of_getElem? (i := 189) rfl))))))) rfl
theorem w_1203 : (.instanceMethod yX12_told : Cond) ∈ ws0 := ws0_mem (List.mem_append_right _ (List.mem_append_right _ (List.mem_append_right _ (List.mem_append_right _ (List.mem_append_right _ (List.mem_append_left _ (List.mem_of_getElem? (i := 191) rfl))))))) rfl
theorem w_49 : (.selects "EndlessTugModel" yX12_told yX12_told : Cond) ∈ ws0 := ws0_mem (List.mem_append_left _ (List.mem_of_getElem? (i := 49) (by decide +kernel))) rfl
theorem w_1204 : (cdW mX12_told : Cond) ∈ ws0 := ws0_mem (List.mem_append_right _ (List.mem_append_right _ (List.mem_append_right _ (List.mem_append_right _ (List.mem_append_right _ (List.mem_append_left _ (List.mem_of_getElem? (i := 192) rfl))))))) rfl
theorem kX12_218 : LkV "EndlessTugModel" 218 mX12_told 2 := ⟨List.forall_mem_cons.mpr ⟨w_1201, List.forall_mem_cons.mpr ⟨w_1203, List.forall_mem_cons.mpr ⟨w_49, List.forall_mem_cons.mpr ⟨w_65, fun _ h => absurd h List.not_mem_nil⟩⟩⟩⟩, w_1204, ⟨by decide +kernel, by decide +kernel, by decide +kernel⟩⟩
theorem w_1205 : (.methodLink "EndlessTugModel" 222 yX12_tells : Cond) ∈ ws0 := ws0_mem (List.mem_append_right _ (List.mem_append_right _ (List.mem_append_right _ (List.mem_append_right _ (List.mem_append_right _ (List.mem_append_left _ (List.mem_of_getElem? (i := 193) rfl))))))) rfl
theorem w_1207 : (.instanceMethod yX12_tells : Cond) ∈ ws0 := ws0_mem (List.mem_append_right _ (List.mem_append_right _ (List.mem_append_right _ (List.mem_append_right _ (List.mem_append_right _ (List.mem_append_left _ (List.mem_of_getElem? (i := 195) rfl))))))) rfl
theorem w_50 : (.selects "EndlessTugModel" yX12_tells yX12_tells : Cond) ∈ ws0 := ws0_mem (List.mem_append_left _ (List.mem_of_getElem? (i := 50) (by decide +kernel))) rfl
theorem w_1208 : (cdW mX12_tells : Cond) ∈ ws0 := ws0_mem (List.mem_append_right _ (List.mem_append_right _ (List.mem_append_right _ (List.mem_append_right _ (List.mem_append_right _ (List.mem_append_left _ (List.mem_of_getElem? (i := 196) rfl))))))) rfl
theorem kX12_222 : LkV "EndlessTugModel" 222 mX12_tells 3 := ⟨List.forall_mem_cons.mpr ⟨w_1205, List.forall_mem_cons.mpr ⟨w_1207, List.forall_mem_cons.mpr ⟨w_50, List.forall_mem_cons.mpr ⟨w_65, fun _ h => absurd h List.not_mem_nil⟩⟩⟩⟩, w_1208, ⟨by decide +kernel, by decide +kernel, by decide +kernel⟩⟩
theorem w_1226 : (.methodLink "EndlessTugModel" 228 yX12_isSo : Cond) ∈ ws0 := ws0_mem (List.mem_append_right _ (List.mem_append_right _ (List.mem_append_right _ (List.mem_append_right _ (List.mem_append_right _ (List.mem_append_left _ (List.mem_of_getElem? (i := 214) rfl))))))) rfl
theorem w_1228 : (.instanceMethod yX12_isSo : Cond) ∈ ws0 := ws0_mem (List.mem_append_right _ (List.mem_append_right _ (List.mem_append_right _ (List.mem_append_right _ (List.mem_append_right _ (List.mem_append_left _ (List.mem_of_getElem? (i := 216) rfl))))))) rfl
theorem w_51 : (.selects "EndlessTugModel" yX12_isSo yX12_isSo : Cond) ∈ ws0 := ws0_mem (List.mem_append_left _ (List.mem_of_getElem? (i := 51) (by decide +kernel))) rfl
theorem w_1229 : (cdW mX12_isSo : Cond) ∈ ws0 := ws0_mem (List.mem_append_right _ (List.mem_append_right _ (List.mem_append_right _ (List.mem_append_right _ (List.mem_append_right _ (List.mem_append_left _ (List.mem_of_getElem? (i := 217) rfl))))))) rfl
theorem kX12_228 : LkV "EndlessTugModel" 228 mX12_isSo 1 := ⟨List.forall_mem_cons.mpr ⟨w_1226, List.forall_mem_cons.mpr ⟨w_1228, List.forall_mem_cons.mpr ⟨w_51, List.forall_mem_cons.mpr ⟨w_65, fun _ h => absurd h List.not_mem_nil⟩⟩⟩⟩, w_1229, ⟨by decide +kernel, by decide +kernel, by decide +kernel⟩⟩
theorem w_687 : (.methodLink "java/lang/String" 335 yJ0_coder_7d493 : Cond) ∈ ws0 := ws0_mem (List.mem_append_right _ (List.mem_append_right _ (List.mem_append_right _ (List.mem_append_left _ (List.mem_of_getElem? (i := 155) rfl))))) rfl
theorem w_688 : (.instanceMethod yJ0_coder_7d493 : Cond) ∈ ws0 := ws0_mem (List.mem_append_right _ (List.mem_append_right _ (List.mem_append_right _ (List.mem_append_left _ (List.mem_of_getElem? (i := 156) rfl))))) rfl
theorem w_689 : (.selects "java/lang/String" yJ0_coder_7d493 yJ0_coder_7d493 : Cond) ∈ ws0 := ws0_mem (List.mem_append_right _ (List.mem_append_right _ (List.mem_append_right _ (List.mem_append_left _ (List.mem_of_getElem? (i := 157) rfl))))) rfl
theorem w_690 : (cdW mJ0_coder_7d493 : Cond) ∈ ws0 := ws0_mem (List.mem_append_right _ (List.mem_append_right _ (List.mem_append_right _ (List.mem_append_left _ (List.mem_of_getElem? (i := 158) rfl))))) rfl
theorem kJ0_335 : LkV "java/lang/String" 335 mJ0_coder_7d493 0 := ⟨List.forall_mem_cons.mpr ⟨w_687, List.forall_mem_cons.mpr ⟨w_688, List.forall_mem_cons.mpr ⟨w_689, List.forall_mem_cons.mpr ⟨w_68, fun _ h => absurd h List.not_mem_nil⟩⟩⟩⟩, w_690, ⟨by decide +kernel, by decide +kernel, by decide +kernel⟩⟩
theorem w_697 : (.methodLink "java/lang/String" 492 yJ0_isLatin1_aae02 : Cond) ∈ ws0 := ws0_mem (List.mem_append_right _ (List.mem_append_right _ (List.mem_append_right _ (List.mem_append_left _ (List.mem_of_getElem? (i := 165) rfl))))) rfl
theorem w_698 : (.instanceMethod yJ0_isLatin1_aae02 : Cond) ∈ ws0 := ws0_mem (List.mem_append_right _ (List.mem_append_right _ (List.mem_append_right _ (List.mem_append_left _ (List.mem_of_getElem? (i := 166) rfl))))) rfl
theorem w_699 : (.selects "java/lang/String" yJ0_isLatin1_aae02 yJ0_isLatin1_aae02 : Cond) ∈ ws0 := ws0_mem (List.mem_append_right _ (List.mem_append_right _ (List.mem_append_right _ (List.mem_append_left _ (List.mem_of_getElem? (i := 167) rfl))))) rfl
theorem w_700 : (cdW mJ0_isLatin1_aae02 : Cond) ∈ ws0 := ws0_mem (List.mem_append_right _ (List.mem_append_right _ (List.mem_append_right _ (List.mem_append_left _ (List.mem_of_getElem? (i := 168) rfl))))) rfl
theorem kJ0_492 : LkV "java/lang/String" 492 mJ0_isLatin1_aae02 0 := ⟨List.forall_mem_cons.mpr ⟨w_697, List.forall_mem_cons.mpr ⟨w_698, List.forall_mem_cons.mpr ⟨w_699, List.forall_mem_cons.mpr ⟨w_68, fun _ h => absurd h List.not_mem_nil⟩⟩⟩⟩, w_700, ⟨by decide +kernel, by decide +kernel, by decide +kernel⟩⟩
theorem w_701 : (.methodLink "java/lang/String" 495 yJ1_charAt_3b067 : Cond) ∈ ws0 := ws0_mem (List.mem_append_right _ (List.mem_append_right _ (List.mem_append_right _ (List.mem_append_left _ (List.mem_of_getElem? (i := 169) rfl))))) rfl
theorem w_702 : (.static yJ1_charAt_3b067 : Cond) ∈ ws0 := ws0_mem (List.mem_append_right _ (List.mem_append_right _ (List.mem_append_right _ (List.mem_append_left _ (List.mem_of_getElem? (i := 170) rfl))))) rfl
theorem w_69 : (.initialized "java/lang/StringLatin1" : Cond) ∈ ws0 := ws0_mem (List.mem_append_right _ (List.mem_append_left _ (List.mem_of_getElem? (i := 17) rfl))) rfl
theorem w_703 : (cdW mJ1_charAt_3b067 : Cond) ∈ ws0 := ws0_mem (List.mem_append_right _ (List.mem_append_right _ (List.mem_append_right _ (List.mem_append_left _ (List.mem_of_getElem? (i := 171) rfl))))) rfl
theorem kJ0_495 : LkS "java/lang/String" 495 mJ1_charAt_3b067 2 := ⟨List.forall_mem_cons.mpr ⟨w_701, List.forall_mem_cons.mpr ⟨w_702, List.forall_mem_cons.mpr ⟨w_69, fun _ h => absurd h List.not_mem_nil⟩⟩⟩, w_703, ⟨by decide +kernel, by decide +kernel, by decide +kernel⟩⟩
theorem w_712 : (.methodLink "java/lang/String" 498 yJ2_charAt_3b067 : Cond) ∈ ws0 := ws0_mem (List.mem_append_right _ (List.mem_append_right _ (List.mem_append_right _ (List.mem_append_left _ (List.mem_of_getElem? (i := 180) rfl))))) rfl
theorem w_713 : (.static yJ2_charAt_3b067 : Cond) ∈ ws0 := ws0_mem (List.mem_append_right _ (List.mem_append_right _ (List.mem_append_right _ (List.mem_append_left _ (List.mem_of_getElem? (i := 181) rfl))))) rfl
theorem w_71 : (.initialized "java/lang/StringUTF16" : Cond) ∈ ws0 := ws0_mem (List.mem_append_right _ (List.mem_append_left _ (List.mem_of_getElem? (i := 19) rfl))) rfl
theorem w_714 : (cdW mJ2_charAt_3b067 : Cond) ∈ ws0 := ws0_mem (List.mem_append_right _ (List.mem_append_right _ (List.mem_append_right _ (List.mem_append_left _ (List.mem_of_getElem? (i := 182) rfl))))) rfl
theorem kJ0_498 : LkS "java/lang/String" 498 mJ2_charAt_3b067 2 := ⟨List.forall_mem_cons.mpr ⟨w_712, List.forall_mem_cons.mpr ⟨w_713, List.forall_mem_cons.mpr ⟨w_71, fun _ h => absurd h List.not_mem_nil⟩⟩⟩, w_714, ⟨by decide +kernel, by decide +kernel, by decide +kernel⟩⟩
theorem w_709 : (.methodLink "java/lang/String" 1059 yJ3_checkIndex_8e157 : Cond) ∈ ws0 := ws0_mem (List.mem_append_right _ (List.mem_append_right _ (List.mem_append_right _ (List.mem_append_left _ (List.mem_of_getElem? (i := 177) rfl))))) rfl
theorem w_710 : (.static yJ3_checkIndex_8e157 : Cond) ∈ ws0 := ws0_mem (List.mem_append_right _ (List.mem_append_right _ (List.mem_append_right _ (List.mem_append_left _ (List.mem_of_getElem? (i := 178) rfl))))) rfl
theorem w_70 : (.initialized "jdk/internal/util/Preconditions" : Cond) ∈ ws0 := ws0_mem (List.mem_append_right _ (List.mem_append_left _ (List.mem_of_getElem? (i := 18) rfl))) rfl
theorem w_711 : (cdW mJ3_checkIndex_8e157 : Cond) ∈ ws0 := ws0_mem (List.mem_append_right _ (List.mem_append_right _ (List.mem_append_right _ (List.mem_append_left _ (List.mem_of_getElem? (i := 179) rfl))))) rfl
theorem kJ0_1059 : LkS "java/lang/String" 1059 mJ3_checkIndex_8e157 3 := ⟨List.forall_mem_cons.mpr ⟨w_709, List.forall_mem_cons.mpr ⟨w_710, List.forall_mem_cons.mpr ⟨w_70, fun _ h => absurd h List.not_mem_nil⟩⟩⟩, w_711, ⟨by decide +kernel, by decide +kernel, by decide +kernel⟩⟩
theorem w_704 : (.methodLink "java/lang/StringLatin1" 9 yJ0_checkIndex_df160 : Cond) ∈ ws0 := ws0_mem (List.mem_append_right _ (List.mem_append_right _ (List.mem_append_right _ (List.mem_append_left _ (List.mem_of_getElem? (i := 172) rfl))))) rfl
theorem w_705 : (.static yJ0_checkIndex_df160 : Cond) ∈ ws0 := ws0_mem (List.mem_append_right _ (List.mem_append_right _ (List.mem_append_right _ (List.mem_append_left _ (List.mem_of_getElem? (i := 173) rfl))))) rfl
theorem w_706 : (cdW mJ0_checkIndex_df160 : Cond) ∈ ws0 := ws0_mem (List.mem_append_right _ (List.mem_append_right _ (List.mem_append_right _ (List.mem_append_left _ (List.mem_of_getElem? (i := 174) rfl))))) rfl
theorem kJ1_9 : LkS "java/lang/StringLatin1" 9 mJ0_checkIndex_df160 2 := ⟨List.forall_mem_cons.mpr ⟨w_704, List.forall_mem_cons.mpr ⟨w_705, List.forall_mem_cons.mpr ⟨w_68, fun _ h => absurd h List.not_mem_nil⟩⟩⟩, w_706, ⟨by decide +kernel, by decide +kernel, by decide +kernel⟩⟩
theorem w_718 : (.methodLink "java/lang/StringUTF16" 48 yJ2_length_9d52b : Cond) ∈ ws0 := ws0_mem (List.mem_append_right _ (List.mem_append_right _ (List.mem_append_right _ (List.mem_append_left _ (List.mem_of_getElem? (i := 186) rfl))))) rfl
theorem w_719 : (.static yJ2_length_9d52b : Cond) ∈ ws0 := ws0_mem (List.mem_append_right _ (List.mem_append_right _ (List.mem_append_right _ (List.mem_append_left _ (List.mem_of_getElem? (i := 187) rfl))))) rfl
theorem w_720 : (cdW mJ2_length_9d52b : Cond) ∈ ws0 := ws0_mem (List.mem_append_right _ (List.mem_append_right _ (List.mem_append_right _ (List.mem_append_left _ (List.mem_of_getElem? (i := 188) rfl))))) rfl
theorem kJ2_48 : LkS "java/lang/StringUTF16" 48 mJ2_length_9d52b 1 := ⟨List.forall_mem_cons.mpr ⟨w_718, List.forall_mem_cons.mpr ⟨w_719, List.forall_mem_cons.mpr ⟨w_71, fun _ h => absurd h List.not_mem_nil⟩⟩⟩, w_720, ⟨by decide +kernel, by decide +kernel, by decide +kernel⟩⟩
theorem w_715 : (.methodLink "java/lang/StringUTF16" 67 yJ2_checkIndex_2214a : Cond) ∈ ws0 := ws0_mem (List.mem_append_right _ (List.mem_append_right _ (List.mem_append_right _ (List.mem_append_left _ (List.mem_of_getElem? (i := 183) rfl))))) rfl
theorem w_716 : (.static yJ2_checkIndex_2214a : Cond) ∈ ws0 := ws0_mem (List.mem_append_right _ (List.mem_append_right _ (List.mem_append_right _ (List.mem_append_left _ (List.mem_of_getElem? (i := 184) rfl))))) rfl
theorem w_717 : (cdW mJ2_checkIndex_2214a : Cond) ∈ ws0 := ws0_mem (List.mem_append_right _ (List.mem_append_right _ (List.mem_append_right _ (List.mem_append_left _ (List.mem_of_getElem? (i := 185) rfl))))) rfl
theorem kJ2_67 : LkS "java/lang/StringUTF16" 67 mJ2_checkIndex_2214a 2 := ⟨List.forall_mem_cons.mpr ⟨w_715, List.forall_mem_cons.mpr ⟨w_716, List.forall_mem_cons.mpr ⟨w_71, fun _ h => absurd h List.not_mem_nil⟩⟩⟩, w_717, ⟨by decide +kernel, by decide +kernel, by decide +kernel⟩⟩
theorem w_722 : (.methodLink "java/lang/StringUTF16" 71 yJ2_getChar_3b067 : Cond) ∈ ws0 := ws0_mem (List.mem_append_right _ (List.mem_append_right _ (List.mem_append_right _ (List.mem_append_left _ (List.mem_of_getElem? (i := 190) rfl))))) rfl
theorem w_723 : (.static yJ2_getChar_3b067 : Cond) ∈ ws0 := ws0_mem (List.mem_append_right _ (List.mem_append_right _ (List.mem_append_right _ (List.mem_append_left _ (List.mem_of_getElem? (i := 191) rfl))))) rfl
theorem w_724 : (cdW mJ2_getChar_3b067 : Cond) ∈ ws0 := ws0_mem (List.mem_append_right _ (List.mem_append_right _ (List.mem_append_right _ (List.mem_append_left _ (List.mem_of_getElem? (i := 192) rfl))))) rfl
theorem kJ2_71 : LkS "java/lang/StringUTF16" 71 mJ2_getChar_3b067 2 := ⟨List.forall_mem_cons.mpr ⟨w_722, List.forall_mem_cons.mpr ⟨w_723, List.forall_mem_cons.mpr ⟨w_71, fun _ h => absurd h List.not_mem_nil⟩⟩⟩, w_724, ⟨by decide +kernel, by decide +kernel, by decide +kernel⟩⟩
theorem w_721 : (.methodLink "java/lang/StringUTF16" 414 yJ0_checkIndex_df160 : Cond) ∈ ws0 := ws0_mem (List.mem_append_right _ (List.mem_append_right _ (List.mem_append_right _ (List.mem_append_left _ (List.mem_of_getElem? (i := 189) rfl))))) rfl
theorem kJ2_414 : LkS "java/lang/StringUTF16" 414 mJ0_checkIndex_df160 2 := ⟨List.forall_mem_cons.mpr ⟨w_721, List.forall_mem_cons.mpr ⟨w_705, List.forall_mem_cons.mpr ⟨w_68, fun _ h => absurd h List.not_mem_nil⟩⟩⟩, w_706, ⟨by decide +kernel, by decide +kernel, by decide +kernel⟩⟩
theorem w_227 : (.lays "EndlessTug$Best" "EndlessTug$Best" "isAny" "Z" : Cond) ∈ ws0 := ws0_mem (List.mem_append_right _ (List.mem_append_left _ (List.mem_of_getElem? (i := 175) rfl))) rfl
theorem w_229 : (.lays "EndlessTug$Best" "EndlessTug$Best" "which" "I" : Cond) ∈ ws0 := ws0_mem (List.mem_append_right _ (List.mem_append_left _ (List.mem_of_getElem? (i := 177) rfl))) rfl
theorem w_231 : (.lays "EndlessTug$Best" "EndlessTug$Best" "worth" "I" : Cond) ∈ ws0 := ws0_mem (List.mem_append_right _ (List.mem_append_left _ (List.mem_of_getElem? (i := 179) rfl))) rfl
theorem u_in0 : ∀ w ∈ u_ws RX0 TX0 3, w ∈ ws0 := List.forall_mem_cons.mpr ⟨w_227, List.forall_mem_cons.mpr ⟨w_229, List.forall_mem_cons.mpr ⟨w_231, fun _ h => absurd h List.not_mem_nil⟩⟩⟩
theorem w_116 : (.laysFinal "EndlessTug$Drinker" "EndlessTug$Man" "number" "I" : Cond) ∈ ws0 := ws0_mem (List.mem_append_right _ (List.mem_append_left _ (List.mem_of_getElem? (i := 64) rfl))) rfl
theorem u_in1 : ∀ w ∈ u_ws RX1 TX1 1, w ∈ ws0 := List.forall_mem_cons.mpr ⟨w_116, fun _ h => absurd h List.not_mem_nil⟩
theorem w_201 : (.lays "EndlessTug$Green" "EndlessTug$Green" "day" "I" : Cond) ∈ ws0 := ws0_mem (List.mem_append_right _ (List.mem_append_left _ (List.mem_of_getElem? (i := 149) rfl))) rfl
theorem w_203 : (.lays "EndlessTug$Green" "EndlessTug$Green" "harvest" "I" : Cond) ∈ ws0 := ws0_mem (List.mem_append_right _ (List.mem_append_left _ (List.mem_of_getElem? (i := 151) rfl))) rfl
theorem w_205 : (.lays "EndlessTug$Green" "EndlessTug$Green" "knot" "I" : Cond) ∈ ws0 := ws0_mem (List.mem_append_right _ (List.mem_append_left _ (List.mem_of_getElem? (i := 153) rfl))) rfl
theorem w_207 : (.lays "EndlessTug$Green" "EndlessTug$Green" "slack" "I" : Cond) ∈ ws0 := ws0_mem (List.mem_append_right _ (List.mem_append_left _ (List.mem_of_getElem? (i := 155) rfl))) rfl
theorem w_209 : (.lays "EndlessTug$Green" "EndlessTug$Green" "size" "I" : Cond) ∈ ws0 := ws0_mem (List.mem_append_right _ (List.mem_append_left _ (List.mem_of_getElem? (i := 157) rfl))) rfl
theorem w_211 : (.laysFinal "EndlessTug$Green" "EndlessTug$Green" "kinds" "[LEndlessTug$Man;" : Cond) ∈ ws0 := ws0_mem (List.mem_append_right _ (List.mem_append_left _ (List.mem_of_getElem? (i := 159) rfl))) rfl
theorem w_213 : (.laysFinal "EndlessTug$Green" "EndlessTug$Green" "people" "[LEndlessTug$Person;" : Cond) ∈ ws0 := ws0_mem (List.mem_append_right _ (List.mem_append_left _ (List.mem_of_getElem? (i := 161) rfl))) rfl
theorem u_in2 : ∀ w ∈ u_ws RX2 TX2 7, w ∈ ws0 := List.forall_mem_cons.mpr ⟨w_201, List.forall_mem_cons.mpr ⟨w_203, List.forall_mem_cons.mpr ⟨w_205, List.forall_mem_cons.mpr ⟨w_207, List.forall_mem_cons.mpr ⟨w_209, List.forall_mem_cons.mpr ⟨w_211, List.forall_mem_cons.mpr ⟨w_213, fun _ h => absurd h List.not_mem_nil⟩⟩⟩⟩⟩⟩⟩
theorem w_99 : (.laysFinal "EndlessTug$Man" "EndlessTug$Man" "number" "I" : Cond) ∈ ws0 := ws0_mem (List.mem_append_right _ (List.mem_append_left _ (List.mem_of_getElem? (i := 47) rfl))) rfl
theorem u_in3 : ∀ w ∈ u_ws RX3 TX3 1, w ∈ ws0 := List.forall_mem_cons.mpr ⟨w_99, fun _ h => absurd h List.not_mem_nil⟩
theorem w_171 : (.lays "EndlessTug$Person" "EndlessTug$Person" "kind" "LEndlessTug$Man;" : Cond) ∈ ws0 := ws0_mem (List.mem_append_right _ (List.mem_append_left _ (List.mem_of_getElem? (i := 119) rfl))) rfl
theorem w_173 : (.lays "EndlessTug$Person" "EndlessTug$Person" "side" "I" : Cond) ∈ ws0 := ws0_mem (List.mem_append_right _ (List.mem_append_left _ (List.mem_of_getElem? (i := 121) rfl))) rfl
theorem w_175 : (.lays "EndlessTug$Person" "EndlessTug$Person" "on" "I" : Cond) ∈ ws0 := ws0_mem (List.mem_append_right _ (List.mem_append_left _ (List.mem_of_getElem? (i := 123) rfl))) rfl
theorem w_177 : (.lays "EndlessTug$Person" "EndlessTug$Person" "tired" "I" : Cond) ∈ ws0 := ws0_mem (List.mem_append_right _ (List.mem_append_left _ (List.mem_of_getElem? (i := 125) rfl))) rfl
theorem w_179 : (.lays "EndlessTug$Person" "EndlessTug$Person" "strong" "I" : Cond) ∈ ws0 := ws0_mem (List.mem_append_right _ (List.mem_append_left _ (List.mem_of_getElem? (i := 127) rfl))) rfl
theorem u_in4 : ∀ w ∈ u_ws RX4 TX4 5, w ∈ ws0 := List.forall_mem_cons.mpr ⟨w_171, List.forall_mem_cons.mpr ⟨w_173, List.forall_mem_cons.mpr ⟨w_175, List.forall_mem_cons.mpr ⟨w_177, List.forall_mem_cons.mpr ⟨w_179, fun _ h => absurd h List.not_mem_nil⟩⟩⟩⟩⟩
theorem w_132 : (.laysFinal "EndlessTug$Preacher" "EndlessTug$Man" "number" "I" : Cond) ∈ ws0 := ws0_mem (List.mem_append_right _ (List.mem_append_left _ (List.mem_of_getElem? (i := 80) rfl))) rfl
theorem u_in5 : ∀ w ∈ u_ws RX5 TX5 1, w ∈ ws0 := List.forall_mem_cons.mpr ⟨w_132, fun _ h => absurd h List.not_mem_nil⟩
theorem w_276 : (.lays "EndlessTug$Sheet" "EndlessTug$Sheet" "bits" "I" : Cond) ∈ ws0 := ws0_mem (List.mem_append_right _ (List.mem_append_left _ (List.mem_of_getElem? (i := 224) rfl))) rfl
theorem w_278 : (.lays "EndlessTug$Sheet" "EndlessTug$Sheet" "size" "I" : Cond) ∈ ws0 := ws0_mem (List.mem_append_right _ (List.mem_append_left _ (List.mem_of_getElem? (i := 226) rfl))) rfl
theorem w_280 : (.laysFinal "EndlessTug$Sheet" "EndlessTug$Sheet" "numbers" "[J" : Cond) ∈ ws0 := ws0_mem (List.mem_append_right _ (List.mem_append_left _ (List.mem_of_getElem? (i := 228) rfl))) rfl
theorem u_in6 : ∀ w ∈ u_ws RX6 TX6 3, w ∈ ws0 := List.forall_mem_cons.mpr ⟨w_276, List.forall_mem_cons.mpr ⟨w_278, List.forall_mem_cons.mpr ⟨w_280, fun _ h => absurd h List.not_mem_nil⟩⟩⟩
theorem w_108 : (.laysFinal "EndlessTug$Son" "EndlessTug$Man" "number" "I" : Cond) ∈ ws0 := ws0_mem (List.mem_append_right _ (List.mem_append_left _ (List.mem_of_getElem? (i := 56) rfl))) rfl
theorem u_in7 : ∀ w ∈ u_ws RX7 TX7 1, w ∈ ws0 := List.forall_mem_cons.mpr ⟨w_108, fun _ h => absurd h List.not_mem_nil⟩
theorem w_140 : (.laysFinal "EndlessTug$Stranger" "EndlessTug$Man" "number" "I" : Cond) ∈ ws0 := ws0_mem (List.mem_append_right _ (List.mem_append_left _ (List.mem_of_getElem? (i := 88) rfl))) rfl
theorem u_in8 : ∀ w ∈ u_ws RX8 TX8 1, w ∈ ws0 := List.forall_mem_cons.mpr ⟨w_140, fun _ h => absurd h List.not_mem_nil⟩
theorem w_247 : (.laysFinal "EndlessTug$Tape" "EndlessTug$Tape" "bytes" "[I" : Cond) ∈ ws0 := ws0_mem (List.mem_append_right _ (List.mem_append_left _ (List.mem_of_getElem? (i := 195) rfl))) rfl
theorem w_249 : (.lays "EndlessTug$Tape" "EndlessTug$Tape" "size" "I" : Cond) ∈ ws0 := ws0_mem (List.mem_append_right _ (List.mem_append_left _ (List.mem_of_getElem? (i := 197) rfl))) rfl
theorem w_251 : (.lays "EndlessTug$Tape" "EndlessTug$Tape" "sort" "I" : Cond) ∈ ws0 := ws0_mem (List.mem_append_right _ (List.mem_append_left _ (List.mem_of_getElem? (i := 199) rfl))) rfl
theorem w_253 : (.lays "EndlessTug$Tape" "EndlessTug$Tape" "start" "I" : Cond) ∈ ws0 := ws0_mem (List.mem_append_right _ (List.mem_append_left _ (List.mem_of_getElem? (i := 201) rfl))) rfl
theorem w_255 : (.lays "EndlessTug$Tape" "EndlessTug$Tape" "end" "I" : Cond) ∈ ws0 := ws0_mem (List.mem_append_right _ (List.mem_append_left _ (List.mem_of_getElem? (i := 203) rfl))) rfl
theorem w_257 : (.lays "EndlessTug$Tape" "EndlessTug$Tape" "taken" "I" : Cond) ∈ ws0 := ws0_mem (List.mem_append_right _ (List.mem_append_left _ (List.mem_of_getElem? (i := 205) rfl))) rfl
theorem u_in9 : ∀ w ∈ u_ws RX9 TX9 6, w ∈ ws0 := List.forall_mem_cons.mpr ⟨w_247, List.forall_mem_cons.mpr ⟨w_249, List.forall_mem_cons.mpr ⟨w_251, List.forall_mem_cons.mpr ⟨w_253, List.forall_mem_cons.mpr ⟨w_255, List.forall_mem_cons.mpr ⟨w_257, fun _ h => absurd h List.not_mem_nil⟩⟩⟩⟩⟩⟩
theorem w_124 : (.laysFinal "EndlessTug$Woman" "EndlessTug$Man" "number" "I" : Cond) ∈ ws0 := ws0_mem (List.mem_append_right _ (List.mem_append_left _ (List.mem_of_getElem? (i := 72) rfl))) rfl
theorem u_in10 : ∀ w ∈ u_ws RX10 TX10 1, w ∈ ws0 := List.forall_mem_cons.mpr ⟨w_124, fun _ h => absurd h List.not_mem_nil⟩
theorem w_292 : (.laysFinal "EndlessTug" "EndlessTug" "green" "LEndlessTug$Green;" : Cond) ∈ ws0 := ws0_mem (List.mem_append_right _ (List.mem_append_right _ (List.mem_append_left _ (List.mem_of_getElem? (i := 0) rfl)))) rfl
theorem w_294 : (.laysFinal "EndlessTug" "EndlessTug" "trial" "LEndlessTug$Green;" : Cond) ∈ ws0 := ws0_mem (List.mem_append_right _ (List.mem_append_right _ (List.mem_append_left _ (List.mem_of_getElem? (i := 2) rfl)))) rfl
theorem w_296 : (.laysFinal "EndlessTug" "EndlessTug" "kept" "LEndlessTug$Green;" : Cond) ∈ ws0 := ws0_mem (List.mem_append_right _ (List.mem_append_right _ (List.mem_append_left _ (List.mem_of_getElem? (i := 4) rfl)))) rfl
theorem w_298 : (.lays "EndlessTug" "EndlessTug" "isKept" "Z" : Cond) ∈ ws0 := ws0_mem (List.mem_append_right _ (List.mem_append_right _ (List.mem_append_left _ (List.mem_of_getElem? (i := 6) rfl)))) rfl
theorem w_300 : (.laysFinal "EndlessTug" "EndlessTug" "best" "LEndlessTug$Best;" : Cond) ∈ ws0 := ws0_mem (List.mem_append_right _ (List.mem_append_right _ (List.mem_append_left _ (List.mem_of_getElem? (i := 8) rfl)))) rfl
theorem w_302 : (.laysFinal "EndlessTug" "EndlessTug" "tape" "LEndlessTug$Tape;" : Cond) ∈ ws0 := ws0_mem (List.mem_append_right _ (List.mem_append_right _ (List.mem_append_left _ (List.mem_of_getElem? (i := 10) rfl)))) rfl
theorem w_304 : (.laysFinal "EndlessTug" "EndlessTug" "sheets" "[LEndlessTug$Sheet;" : Cond) ∈ ws0 := ws0_mem (List.mem_append_right _ (List.mem_append_right _ (List.mem_append_left _ (List.mem_of_getElem? (i := 12) rfl)))) rfl
theorem w_306 : (.laysFinal "EndlessTug" "EndlessTug" "found" "[I" : Cond) ∈ ws0 := ws0_mem (List.mem_append_right _ (List.mem_append_right _ (List.mem_append_left _ (List.mem_of_getElem? (i := 14) rfl)))) rfl
theorem u_in11 : ∀ w ∈ u_ws RX11 TX11 8, w ∈ ws0 := List.forall_mem_cons.mpr ⟨w_292, List.forall_mem_cons.mpr ⟨w_294, List.forall_mem_cons.mpr ⟨w_296, List.forall_mem_cons.mpr ⟨w_298, List.forall_mem_cons.mpr ⟨w_300, List.forall_mem_cons.mpr ⟨w_302, List.forall_mem_cons.mpr ⟨w_304, List.forall_mem_cons.mpr ⟨w_306, fun _ h => absurd h List.not_mem_nil⟩⟩⟩⟩⟩⟩⟩⟩
theorem w_885 : (.laysFinal "EndlessTugModel" "EndlessTugModel" "s" "[I" : Cond) ∈ ws0 := ws0_mem (List.mem_append_right _ (List.mem_append_right _ (List.mem_append_right _ (List.mem_append_right _ (List.mem_append_left _ (List.mem_of_getElem? (i := 113) rfl)))))) rfl
theorem w_887 : (.laysFinal "EndlessTugModel" "EndlessTugModel" "kept" "[I" : Cond) ∈ ws0 := ws0_mem (List.mem_append_right _ (List.mem_append_right _ (List.mem_append_right _ (List.mem_append_right _ (List.mem_append_left _ (List.mem_of_getElem? (i := 115) rfl)))))) rfl
theorem w_889 : (.laysFinal "EndlessTugModel" "EndlessTugModel" "aside" "[I" : Cond) ∈ ws0 := ws0_mem (List.mem_append_right _ (List.mem_append_right _ (List.mem_append_right _ (List.mem_append_right _ (List.mem_append_left _ (List.mem_of_getElem? (i := 117) rfl)))))) rfl
theorem w_891 : (.lays "EndlessTugModel" "EndlessTugModel" "isKept" "Z" : Cond) ∈ ws0 := ws0_mem (List.mem_append_right _ (List.mem_append_right _ (List.mem_append_right _ (List.mem_append_right _ (List.mem_append_left _ (List.mem_of_getElem? (i := 119) rfl)))))) rfl
theorem w_893 : (.laysFinal "EndlessTugModel" "EndlessTugModel" "found" "[I" : Cond) ∈ ws0 := ws0_mem (List.mem_append_right _ (List.mem_append_right _ (List.mem_append_right _ (List.mem_append_right _ (List.mem_append_left _ (List.mem_of_getElem? (i := 121) rfl)))))) rfl
theorem w_895 : (.laysFinal "EndlessTugModel" "EndlessTugModel" "tape" "[I" : Cond) ∈ ws0 := ws0_mem (List.mem_append_right _ (List.mem_append_right _ (List.mem_append_right _ (List.mem_append_right _ (List.mem_append_left _ (List.mem_of_getElem? (i := 123) rfl)))))) rfl
theorem w_897 : (.lays "EndlessTugModel" "EndlessTugModel" "taped" "I" : Cond) ∈ ws0 := ws0_mem (List.mem_append_right _ (List.mem_append_right _ (List.mem_append_right _ (List.mem_append_right _ (List.mem_append_left _ (List.mem_of_getElem? (i := 125) rfl)))))) rfl
theorem w_899 : (.lays "EndlessTugModel" "EndlessTugModel" "token" "I" : Cond) ∈ ws0 := ws0_mem (List.mem_append_right _ (List.mem_append_right _ (List.mem_append_right _ (List.mem_append_right _ (List.mem_append_left _ (List.mem_of_getElem? (i := 127) rfl)))))) rfl
theorem w_901 : (.lays "EndlessTugModel" "EndlessTugModel" "begun" "I" : Cond) ∈ ws0 := ws0_mem (List.mem_append_right _ (List.mem_append_right _ (List.mem_append_right _ (List.mem_append_right _ (List.mem_append_left _ (List.mem_of_getElem? (i := 129) rfl)))))) rfl
theorem w_903 : (.lays "EndlessTugModel" "EndlessTugModel" "ended" "I" : Cond) ∈ ws0 := ws0_mem (List.mem_append_right _ (List.mem_append_right _ (List.mem_append_right _ (List.mem_append_right _ (List.mem_append_left _ (List.mem_of_getElem? (i := 131) rfl)))))) rfl
theorem w_905 : (.lays "EndlessTugModel" "EndlessTugModel" "value" "J" : Cond) ∈ ws0 := ws0_mem (List.mem_append_right _ (List.mem_append_right _ (List.mem_append_right _ (List.mem_append_right _ (List.mem_append_left _ (List.mem_of_getElem? (i := 133) rfl)))))) rfl
theorem w_907 : (.laysFinal "EndlessTugModel" "EndlessTugModel" "letters" "[C" : Cond) ∈ ws0 := ws0_mem (List.mem_append_right _ (List.mem_append_right _ (List.mem_append_right _ (List.mem_append_right _ (List.mem_append_left _ (List.mem_of_getElem? (i := 135) rfl)))))) rfl
theorem w_909 : (.laysFinal "EndlessTugModel" "EndlessTugModel" "sides" "[C" : Cond) ∈ ws0 := ws0_mem (List.mem_append_right _ (List.mem_append_right _ (List.mem_append_right _ (List.mem_append_right _ (List.mem_append_left _ (List.mem_of_getElem? (i := 137) rfl)))))) rfl
theorem w_911 : (.laysFinal "EndlessTugModel" "EndlessTugModel" "more" "[C" : Cond) ∈ ws0 := ws0_mem (List.mem_append_right _ (List.mem_append_right _ (List.mem_append_right _ (List.mem_append_right _ (List.mem_append_left _ (List.mem_of_getElem? (i := 139) rfl)))))) rfl
theorem w_913 : (.laysFinal "EndlessTugModel" "EndlessTugModel" "others" "[C" : Cond) ∈ ws0 := ws0_mem (List.mem_append_right _ (List.mem_append_right _ (List.mem_append_right _ (List.mem_append_right _ (List.mem_append_left _ (List.mem_of_getElem? (i := 141) rfl)))))) rfl
theorem w_915 : (.laysFinal "EndlessTugModel" "EndlessTugModel" "widths" "[I" : Cond) ∈ ws0 := ws0_mem (List.mem_append_right _ (List.mem_append_right _ (List.mem_append_right _ (List.mem_append_right _ (List.mem_append_left _ (List.mem_of_getElem? (i := 143) rfl)))))) rfl
theorem w_917 : (.laysFinal "EndlessTugModel" "EndlessTugModel" "sizes" "[I" : Cond) ∈ ws0 := ws0_mem (List.mem_append_right _ (List.mem_append_right _ (List.mem_append_right _ (List.mem_append_right _ (List.mem_append_left _ (List.mem_of_getElem? (i := 145) rfl)))))) rfl
theorem w_919 : (.laysFinal "EndlessTugModel" "EndlessTugModel" "cells" "[J" : Cond) ∈ ws0 := ws0_mem (List.mem_append_right _ (List.mem_append_right _ (List.mem_append_right _ (List.mem_append_right _ (List.mem_append_left _ (List.mem_of_getElem? (i := 147) rfl)))))) rfl
theorem w_921 : (.laysFinal "EndlessTugModel" "EndlessTugModel" "carried" "[J" : Cond) ∈ ws0 := ws0_mem (List.mem_append_right _ (List.mem_append_right _ (List.mem_append_right _ (List.mem_append_right _ (List.mem_append_left _ (List.mem_of_getElem? (i := 149) rfl)))))) rfl
theorem u_in12 : ∀ w ∈ u_ws RX12 TX12 19, w ∈ ws0 := List.forall_mem_cons.mpr ⟨w_885, List.forall_mem_cons.mpr ⟨w_887, List.forall_mem_cons.mpr ⟨w_889, List.forall_mem_cons.mpr ⟨w_891, List.forall_mem_cons.mpr ⟨w_893, List.forall_mem_cons.mpr ⟨w_895, List.forall_mem_cons.mpr ⟨w_897, List.forall_mem_cons.mpr ⟨w_899, List.forall_mem_cons.mpr ⟨w_901, List.forall_mem_cons.mpr ⟨w_903, List.forall_mem_cons.mpr ⟨w_905, List.forall_mem_cons.mpr ⟨w_907, List.forall_mem_cons.mpr ⟨w_909, List.forall_mem_cons.mpr ⟨w_911, List.forall_mem_cons.mpr ⟨w_913, List.forall_mem_cons.mpr ⟨w_915, List.forall_mem_cons.mpr ⟨w_917, List.forall_mem_cons.mpr ⟨w_919, List.forall_mem_cons.mpr ⟨w_921, fun _ h => absurd h List.not_mem_nil⟩⟩⟩⟩⟩⟩⟩⟩⟩⟩⟩⟩⟩⟩⟩⟩⟩⟩⟩
theorem w_284 : (.fieldLink "EndlessTug" 10 "EndlessTug" "green" "LEndlessTug$Green;" : Cond) ∈ ws0 := ws0_mem (List.mem_append_right _ (List.mem_append_left _ (List.mem_of_getElem? (i := 232) rfl))) rfl
theorem gX11_10_11 : FLk "EndlessTug" 10 11 0 := ⟨RX11, TX11, 8, rfl, by decide, rfl, w_284, u_in11⟩
theorem w_285 : (.fieldLink "EndlessTug" 16 "EndlessTug" "trial" "LEndlessTug$Green;" : Cond) ∈ ws0 := ws0_mem (List.mem_append_right _ (List.mem_append_left _ (List.mem_of_getElem? (i := 233) rfl))) rfl
theorem gX11_16_11 : FLk "EndlessTug" 16 11 1 := ⟨RX11, TX11, 8, rfl, by decide, rfl, w_285, u_in11⟩
theorem w_286 : (.fieldLink "EndlessTug" 19 "EndlessTug" "kept" "LEndlessTug$Green;" : Cond) ∈ ws0 := ws0_mem (List.mem_append_right _ (List.mem_append_left _ (List.mem_of_getElem? (i := 234) rfl))) rfl
theorem gX11_19_11 : FLk "EndlessTug" 19 11 2 := ⟨RX11, TX11, 8, rfl, by decide, rfl, w_286, u_in11⟩
theorem w_288 : (.fieldLink "EndlessTug" 25 "EndlessTug" "best" "LEndlessTug$Best;" : Cond) ∈ ws0 := ws0_mem (List.mem_append_right _ (List.mem_append_left _ (List.mem_of_getElem? (i := 236) rfl))) rfl
theorem gX11_25_11 : FLk "EndlessTug" 25 11 4 := ⟨RX11, TX11, 8, rfl, by decide, rfl, w_288, u_in11⟩
theorem w_289 : (.fieldLink "EndlessTug" 32 "EndlessTug" "tape" "LEndlessTug$Tape;" : Cond) ∈ ws0 := ws0_mem (List.mem_append_right _ (List.mem_append_left _ (List.mem_of_getElem? (i := 237) rfl))) rfl
theorem gX11_32_11 : FLk "EndlessTug" 32 11 5 := ⟨RX11, TX11, 8, rfl, by decide, rfl, w_289, u_in11⟩
theorem w_290 : (.fieldLink "EndlessTug" 38 "EndlessTug" "sheets" "[LEndlessTug$Sheet;" : Cond) ∈ ws0 := ws0_mem (List.mem_append_right _ (List.mem_append_left _ (List.mem_of_getElem? (i := 238) rfl))) rfl
theorem gX11_38_11 : FLk "EndlessTug" 38 11 6 := ⟨RX11, TX11, 8, rfl, by decide, rfl, w_290, u_in11⟩
theorem w_291 : (.fieldLink "EndlessTug" 42 "EndlessTug" "found" "[I" : Cond) ∈ ws0 := ws0_mem (List.mem_append_right _ (List.mem_append_left _ (List.mem_of_getElem? (i := 239) rfl))) rfl
theorem gX11_42_11 : FLk "EndlessTug" 42 11 7 := ⟨RX11, TX11, 8, rfl, by decide, rfl, w_291, u_in11⟩
theorem w_191 : (.fieldLink "EndlessTug" 56 "EndlessTug$Green" "slack" "I" : Cond) ∈ ws0 := ws0_mem (List.mem_append_right _ (List.mem_append_left _ (List.mem_of_getElem? (i := 139) rfl))) rfl
theorem gX11_56_2 : FLk "EndlessTug" 56 2 3 := ⟨RX2, TX2, 7, rfl, by decide, rfl, w_191, u_in2⟩
theorem w_185 : (.fieldLink "EndlessTug" 60 "EndlessTug$Green" "harvest" "I" : Cond) ∈ ws0 := ws0_mem (List.mem_append_right _ (List.mem_append_left _ (List.mem_of_getElem? (i := 133) rfl))) rfl
theorem gX11_60_2 : FLk "EndlessTug" 60 2 1 := ⟨RX2, TX2, 7, rfl, by decide, rfl, w_185, u_in2⟩
theorem w_188 : (.fieldLink "EndlessTug" 63 "EndlessTug$Green" "knot" "I" : Cond) ∈ ws0 := ws0_mem (List.mem_append_right _ (List.mem_append_left _ (List.mem_of_getElem? (i := 136) rfl))) rfl
theorem gX11_63_2 : FLk "EndlessTug" 63 2 2 := ⟨RX2, TX2, 7, rfl, by decide, rfl, w_188, u_in2⟩
theorem w_183 : (.fieldLink "EndlessTug" 66 "EndlessTug$Green" "day" "I" : Cond) ∈ ws0 := ws0_mem (List.mem_append_right _ (List.mem_append_left _ (List.mem_of_getElem? (i := 131) rfl))) rfl
theorem gX11_66_2 : FLk "EndlessTug" 66 2 0 := ⟨RX2, TX2, 7, rfl, by decide, rfl, w_183, u_in2⟩
theorem w_195 : (.fieldLink "EndlessTug" 100 "EndlessTug$Green" "size" "I" : Cond) ∈ ws0 := ws0_mem (List.mem_append_right _ (List.mem_append_left _ (List.mem_of_getElem? (i := 143) rfl))) rfl
theorem gX11_100_2 : FLk "EndlessTug" 100 2 4 := ⟨RX2, TX2, 7, rfl, by decide, rfl, w_195, u_in2⟩
theorem w_200 : (.fieldLink "EndlessTug" 110 "EndlessTug$Green" "people" "[LEndlessTug$Person;" : Cond) ∈ ws0 := ws0_mem (List.mem_append_right _ (List.mem_append_left _ (List.mem_of_getElem? (i := 148) rfl))) rfl
theorem gX11_110_2 : FLk "EndlessTug" 110 2 6 := ⟨RX2, TX2, 7, rfl, by decide, rfl, w_200, u_in2⟩
theorem w_149 : (.fieldLink "EndlessTug" 114 "EndlessTug$Person" "kind" "LEndlessTug$Man;" : Cond) ∈ ws0 := ws0_mem (List.mem_append_right _ (List.mem_append_left _ (List.mem_of_getElem? (i := 97) rfl))) rfl
theorem gX11_114_4 : FLk "EndlessTug" 114 4 0 := ⟨RX4, TX4, 5, rfl, by decide, rfl, w_149, u_in4⟩
theorem w_98 : (.fieldLink "EndlessTug" 120 "EndlessTug$Man" "number" "I" : Cond) ∈ ws0 := ws0_mem (List.mem_append_right _ (List.mem_append_left _ (List.mem_of_getElem? (i := 46) rfl))) rfl
theorem gX11_120_1 : FLk "EndlessTug" 120 1 0 := ⟨RX1, TX1, 1, rfl, by decide, rfl, w_98, u_in1⟩
theorem gX11_120_3 : FLk "EndlessTug" 120 3 0 := ⟨RX3, TX3, 1, rfl, by decide, rfl, w_98, u_in3⟩
theorem gX11_120_5 : FLk "EndlessTug" 120 5 0 := ⟨RX5, TX5, 1, rfl, by decide, rfl, w_98, u_in5⟩
theorem gX11_120_7 : FLk "EndlessTug" 120 7 0 := ⟨RX7, TX7, 1, rfl, by decide, rfl, w_98, u_in7⟩
theorem gX11_120_8 : FLk "EndlessTug" 120 8 0 := ⟨RX8, TX8, 1, rfl, by decide, rfl, w_98, u_in8⟩
theorem gX11_120_10 : FLk "EndlessTug" 120 10 0 := ⟨RX10, TX10, 1, rfl, by decide, rfl, w_98, u_in10⟩
theorem w_153 : (.fieldLink "EndlessTug" 125 "EndlessTug$Person" "side" "I" : Cond) ∈ ws0 := ws0_mem (List.mem_append_right _ (List.mem_append_left _ (List.mem_of_getElem? (i := 101) rfl))) rfl
theorem gX11_125_4 : FLk "EndlessTug" 125 4 1 := ⟨RX4, TX4, 5, rfl, by decide, rfl, w_153, u_in4⟩
theorem w_157 : (.fieldLink "EndlessTug" 128 "EndlessTug$Person" "on" "I" : Cond) ∈ ws0 := ws0_mem (List.mem_append_right _ (List.mem_append_left _ (List.mem_of_getElem? (i := 105) rfl))) rfl
theorem gX11_128_4 : FLk "EndlessTug" 128 4 2 := ⟨RX4, TX4, 5, rfl, by decide, rfl, w_157, u_in4⟩
theorem w_165 : (.fieldLink "EndlessTug" 131 "EndlessTug$Person" "tired" "I" : Cond) ∈ ws0 := ws0_mem (List.mem_append_right _ (List.mem_append_left _ (List.mem_of_getElem? (i := 113) rfl))) rfl
theorem gX11_131_4 : FLk "EndlessTug" 131 4 3 := ⟨RX4, TX4, 5, rfl, by decide, rfl, w_165, u_in4⟩
theorem w_170 : (.fieldLink "EndlessTug" 134 "EndlessTug$Person" "strong" "I" : Cond) ∈ ws0 := ws0_mem (List.mem_append_right _ (List.mem_append_left _ (List.mem_of_getElem? (i := 118) rfl))) rfl
theorem gX11_134_4 : FLk "EndlessTug" 134 4 4 := ⟨RX4, TX4, 5, rfl, by decide, rfl, w_170, u_in4⟩
theorem w_197 : (.fieldLink "EndlessTug" 149 "EndlessTug$Green" "kinds" "[LEndlessTug$Man;" : Cond) ∈ ws0 := ws0_mem (List.mem_append_right _ (List.mem_append_left _ (List.mem_of_getElem? (i := 145) rfl))) rfl
theorem gX11_149_2 : FLk "EndlessTug" 149 2 5 := ⟨RX2, TX2, 7, rfl, by decide, rfl, w_197, u_in2⟩
theorem w_225 : (.fieldLink "EndlessTug" 190 "EndlessTug$Best" "which" "I" : Cond) ∈ ws0 := ws0_mem (List.mem_append_right _ (List.mem_append_left _ (List.mem_of_getElem? (i := 173) rfl))) rfl
theorem gX11_190_0 : FLk "EndlessTug" 190 0 1 := ⟨RX0, TX0, 3, rfl, by decide, rfl, w_225, u_in0⟩
theorem w_242 : (.fieldLink "EndlessTug" 209 "EndlessTug$Tape" "size" "I" : Cond) ∈ ws0 := ws0_mem (List.mem_append_right _ (List.mem_append_left _ (List.mem_of_getElem? (i := 190) rfl))) rfl
theorem gX11_209_9 : FLk "EndlessTug" 209 9 1 := ⟨RX9, TX9, 6, rfl, by decide, rfl, w_242, u_in9⟩
theorem w_272 : (.fieldLink "EndlessTug" 223 "EndlessTug$Sheet" "size" "I" : Cond) ∈ ws0 := ws0_mem (List.mem_append_right _ (List.mem_append_left _ (List.mem_of_getElem? (i := 220) rfl))) rfl
theorem gX11_223_6 : FLk "EndlessTug" 223 6 1 := ⟨RX6, TX6, 3, rfl, by decide, rfl, w_272, u_in6⟩
theorem w_275 : (.fieldLink "EndlessTug" 228 "EndlessTug$Sheet" "numbers" "[J" : Cond) ∈ ws0 := ws0_mem (List.mem_append_right _ (List.mem_append_left _ (List.mem_of_getElem? (i := 223) rfl))) rfl
theorem gX11_228_6 : FLk "EndlessTug" 228 6 2 := ⟨RX6, TX6, 3, rfl, by decide, rfl, w_275, u_in6⟩
theorem w_269 : (.fieldLink "EndlessTug" 236 "EndlessTug$Sheet" "bits" "I" : Cond) ∈ ws0 := ws0_mem (List.mem_append_right _ (List.mem_append_left _ (List.mem_of_getElem? (i := 217) rfl))) rfl
theorem gX11_236_6 : FLk "EndlessTug" 236 6 0 := ⟨RX6, TX6, 3, rfl, by decide, rfl, w_269, u_in6⟩
theorem w_287 : (.fieldLink "EndlessTug" 254 "EndlessTug" "isKept" "Z" : Cond) ∈ ws0 := ws0_mem (List.mem_append_right _ (List.mem_append_left _ (List.mem_of_getElem? (i := 235) rfl))) rfl
theorem gX11_254_11 : FLk "EndlessTug" 254 11 3 := ⟨RX11, TX11, 8, rfl, by decide, rfl, w_287, u_in11⟩
theorem w_223 : (.fieldLink "EndlessTug" 264 "EndlessTug$Best" "isAny" "Z" : Cond) ∈ ws0 := ws0_mem (List.mem_append_right _ (List.mem_append_left _ (List.mem_of_getElem? (i := 171) rfl))) rfl
theorem gX11_264_0 : FLk "EndlessTug" 264 0 0 := ⟨RX0, TX0, 3, rfl, by decide, rfl, w_223, u_in0⟩
theorem w_222 : (.fieldLink "EndlessTug$Best" 7 "EndlessTug$Best" "isAny" "Z" : Cond) ∈ ws0 := ws0_mem (List.mem_append_right _ (List.mem_append_left _ (List.mem_of_getElem? (i := 170) rfl))) rfl
theorem gX0_7_0 : FLk "EndlessTug$Best" 7 0 0 := ⟨RX0, TX0, 3, rfl, by decide, rfl, w_222, u_in0⟩
theorem w_226 : (.fieldLink "EndlessTug$Best" 17 "EndlessTug$Best" "worth" "I" : Cond) ∈ ws0 := ws0_mem (List.mem_append_right _ (List.mem_append_left _ (List.mem_of_getElem? (i := 174) rfl))) rfl
theorem gX0_17_0 : FLk "EndlessTug$Best" 17 0 2 := ⟨RX0, TX0, 3, rfl, by decide, rfl, w_226, u_in0⟩
theorem w_184 : (.fieldLink "EndlessTug$Green" 9 "EndlessTug$Green" "harvest" "I" : Cond) ∈ ws0 := ws0_mem (List.mem_append_right _ (List.mem_append_left _ (List.mem_of_getElem? (i := 132) rfl))) rfl
theorem gX2_9_2 : FLk "EndlessTug$Green" 9 2 1 := ⟨RX2, TX2, 7, rfl, by decide, rfl, w_184, u_in2⟩
theorem w_190 : (.fieldLink "EndlessTug$Green" 15 "EndlessTug$Green" "slack" "I" : Cond) ∈ ws0 := ws0_mem (List.mem_append_right _ (List.mem_append_left _ (List.mem_of_getElem? (i := 138) rfl))) rfl
theorem gX2_15_2 : FLk "EndlessTug$Green" 15 2 3 := ⟨RX2, TX2, 7, rfl, by decide, rfl, w_190, u_in2⟩
theorem w_196 : (.fieldLink "EndlessTug$Green" 20 "EndlessTug$Green" "kinds" "[LEndlessTug$Man;" : Cond) ∈ ws0 := ws0_mem (List.mem_append_right _ (List.mem_append_left _ (List.mem_of_getElem? (i := 144) rfl))) rfl
theorem gX2_20_2 : FLk "EndlessTug$Green" 20 2 5 := ⟨RX2, TX2, 7, rfl, by decide, rfl, w_196, u_in2⟩
theorem w_198 : (.fieldLink "EndlessTug$Green" 26 "EndlessTug$Green" "people" "[LEndlessTug$Person;" : Cond) ∈ ws0 := ws0_mem (List.mem_append_right _ (List.mem_append_left _ (List.mem_of_getElem? (i := 146) rfl))) rfl
theorem gX2_26_2 : FLk "EndlessTug$Green" 26 2 6 := ⟨RX2, TX2, 7, rfl, by decide, rfl, w_198, u_in2⟩
theorem w_182 : (.fieldLink "EndlessTug$Green" 51 "EndlessTug$Green" "day" "I" : Cond) ∈ ws0 := ws0_mem (List.mem_append_right _ (List.mem_append_left _ (List.mem_of_getElem? (i := 130) rfl))) rfl
theorem gX2_51_2 : FLk "EndlessTug$Green" 51 2 0 := ⟨RX2, TX2, 7, rfl, by decide, rfl, w_182, u_in2⟩
theorem w_187 : (.fieldLink "EndlessTug$Green" 54 "EndlessTug$Green" "knot" "I" : Cond) ∈ ws0 := ws0_mem (List.mem_append_right _ (List.mem_append_left _ (List.mem_of_getElem? (i := 135) rfl))) rfl
theorem gX2_54_2 : FLk "EndlessTug$Green" 54 2 2 := ⟨RX2, TX2, 7, rfl, by decide, rfl, w_187, u_in2⟩
theorem w_193 : (.fieldLink "EndlessTug$Green" 57 "EndlessTug$Green" "size" "I" : Cond) ∈ ws0 := ws0_mem (List.mem_append_right _ (List.mem_append_left _ (List.mem_of_getElem? (i := 141) rfl))) rfl
theorem gX2_57_2 : FLk "EndlessTug$Green" 57 2 4 := ⟨RX2, TX2, 7, rfl, by decide, rfl, w_193, u_in2⟩
theorem w_148 : (.fieldLink "EndlessTug$Green" 72 "EndlessTug$Person" "kind" "LEndlessTug$Man;" : Cond) ∈ ws0 := ws0_mem (List.mem_append_right _ (List.mem_append_left _ (List.mem_of_getElem? (i := 96) rfl))) rfl
theorem gX2_72_4 : FLk "EndlessTug$Green" 72 4 0 := ⟨RX4, TX4, 5, rfl, by decide, rfl, w_148, u_in4⟩
theorem w_152 : (.fieldLink "EndlessTug$Green" 76 "EndlessTug$Person" "side" "I" : Cond) ∈ ws0 := ws0_mem (List.mem_append_right _ (List.mem_append_left _ (List.mem_of_getElem? (i := 100) rfl))) rfl
theorem gX2_76_4 : FLk "EndlessTug$Green" 76 4 1 := ⟨RX4, TX4, 5, rfl, by decide, rfl, w_152, u_in4⟩
theorem w_155 : (.fieldLink "EndlessTug$Green" 79 "EndlessTug$Person" "on" "I" : Cond) ∈ ws0 := ws0_mem (List.mem_append_right _ (List.mem_append_left _ (List.mem_of_getElem? (i := 103) rfl))) rfl
theorem gX2_79_4 : FLk "EndlessTug$Green" 79 4 2 := ⟨RX4, TX4, 5, rfl, by decide, rfl, w_155, u_in4⟩
theorem w_163 : (.fieldLink "EndlessTug$Green" 82 "EndlessTug$Person" "tired" "I" : Cond) ∈ ws0 := ws0_mem (List.mem_append_right _ (List.mem_append_left _ (List.mem_of_getElem? (i := 111) rfl))) rfl
theorem gX2_82_4 : FLk "EndlessTug$Green" 82 4 3 := ⟨RX4, TX4, 5, rfl, by decide, rfl, w_163, u_in4⟩
theorem w_271 : (.fieldLink "EndlessTug$Green" 128 "EndlessTug$Sheet" "size" "I" : Cond) ∈ ws0 := ws0_mem (List.mem_append_right _ (List.mem_append_left _ (List.mem_of_getElem? (i := 219) rfl))) rfl
theorem gX2_128_6 : FLk "EndlessTug$Green" 128 6 1 := ⟨RX6, TX6, 3, rfl, by decide, rfl, w_271, u_in6⟩
theorem w_274 : (.fieldLink "EndlessTug$Green" 131 "EndlessTug$Sheet" "numbers" "[J" : Cond) ∈ ws0 := ws0_mem (List.mem_append_right _ (List.mem_append_left _ (List.mem_of_getElem? (i := 222) rfl))) rfl
theorem gX2_131_6 : FLk "EndlessTug$Green" 131 6 2 := ⟨RX6, TX6, 3, rfl, by decide, rfl, w_274, u_in6⟩
theorem w_167 : (.fieldLink "EndlessTug$Man" 15 "EndlessTug$Person" "strong" "I" : Cond) ∈ ws0 := ws0_mem (List.mem_append_right _ (List.mem_append_left _ (List.mem_of_getElem? (i := 115) rfl))) rfl
theorem gX3_15_4 : FLk "EndlessTug$Man" 15 4 4 := ⟨RX4, TX4, 5, rfl, by decide, rfl, w_167, u_in4⟩
theorem w_159 : (.fieldLink "EndlessTug$Man" 20 "EndlessTug$Person" "tired" "I" : Cond) ∈ ws0 := ws0_mem (List.mem_append_right _ (List.mem_append_left _ (List.mem_of_getElem? (i := 107) rfl))) rfl
theorem gX3_20_4 : FLk "EndlessTug$Man" 20 4 3 := ⟨RX4, TX4, 5, rfl, by decide, rfl, w_159, u_in4⟩
theorem w_147 : (.fieldLink "EndlessTug$Person" 9 "EndlessTug$Person" "kind" "LEndlessTug$Man;" : Cond) ∈ ws0 := ws0_mem (List.mem_append_right _ (List.mem_append_left _ (List.mem_of_getElem? (i := 95) rfl))) rfl
theorem gX4_9_4 : FLk "EndlessTug$Person" 9 4 0 := ⟨RX4, TX4, 5, rfl, by decide, rfl, w_147, u_in4⟩
theorem w_150 : (.fieldLink "EndlessTug$Person" 15 "EndlessTug$Person" "side" "I" : Cond) ∈ ws0 := ws0_mem (List.mem_append_right _ (List.mem_append_left _ (List.mem_of_getElem? (i := 98) rfl))) rfl
theorem gX4_15_4 : FLk "EndlessTug$Person" 15 4 1 := ⟨RX4, TX4, 5, rfl, by decide, rfl, w_150, u_in4⟩
theorem w_154 : (.fieldLink "EndlessTug$Person" 19 "EndlessTug$Person" "on" "I" : Cond) ∈ ws0 := ws0_mem (List.mem_append_right _ (List.mem_append_left _ (List.mem_of_getElem? (i := 102) rfl))) rfl
theorem gX4_19_4 : FLk "EndlessTug$Person" 19 4 2 := ⟨RX4, TX4, 5, rfl, by decide, rfl, w_154, u_in4⟩
theorem w_158 : (.fieldLink "EndlessTug$Person" 22 "EndlessTug$Person" "tired" "I" : Cond) ∈ ws0 := ws0_mem (List.mem_append_right _ (List.mem_append_left _ (List.mem_of_getElem? (i := 106) rfl))) rfl
theorem gX4_22_4 : FLk "EndlessTug$Person" 22 4 3 := ⟨RX4, TX4, 5, rfl, by decide, rfl, w_158, u_in4⟩
theorem w_166 : (.fieldLink "EndlessTug$Person" 25 "EndlessTug$Person" "strong" "I" : Cond) ∈ ws0 := ws0_mem (List.mem_append_right _ (List.mem_append_left _ (List.mem_of_getElem? (i := 114) rfl))) rfl
theorem gX4_25_4 : FLk "EndlessTug$Person" 25 4 4 := ⟨RX4, TX4, 5, rfl, by decide, rfl, w_166, u_in4⟩
theorem w_273 : (.fieldLink "EndlessTug$Sheet" 9 "EndlessTug$Sheet" "numbers" "[J" : Cond) ∈ ws0 := ws0_mem (List.mem_append_right _ (List.mem_append_left _ (List.mem_of_getElem? (i := 221) rfl))) rfl
theorem gX6_9_6 : FLk "EndlessTug$Sheet" 9 6 2 := ⟨RX6, TX6, 3, rfl, by decide, rfl, w_273, u_in6⟩
theorem w_268 : (.fieldLink "EndlessTug$Sheet" 15 "EndlessTug$Sheet" "bits" "I" : Cond) ∈ ws0 := ws0_mem (List.mem_append_right _ (List.mem_append_left _ (List.mem_of_getElem? (i := 216) rfl))) rfl
theorem gX6_15_6 : FLk "EndlessTug$Sheet" 15 6 0 := ⟨RX6, TX6, 3, rfl, by decide, rfl, w_268, u_in6⟩
theorem w_270 : (.fieldLink "EndlessTug$Sheet" 19 "EndlessTug$Sheet" "size" "I" : Cond) ∈ ws0 := ws0_mem (List.mem_append_right _ (List.mem_append_left _ (List.mem_of_getElem? (i := 218) rfl))) rfl
theorem gX6_19_6 : FLk "EndlessTug$Sheet" 19 6 1 := ⟨RX6, TX6, 3, rfl, by decide, rfl, w_270, u_in6⟩
theorem w_160 : (.fieldLink "EndlessTug$Son" 21 "EndlessTug$Person" "tired" "I" : Cond) ∈ ws0 := ws0_mem (List.mem_append_right _ (List.mem_append_left _ (List.mem_of_getElem? (i := 108) rfl))) rfl
theorem gX7_21_4 : FLk "EndlessTug$Son" 21 4 3 := ⟨RX4, TX4, 5, rfl, by decide, rfl, w_160, u_in4⟩
theorem w_151 : (.fieldLink "EndlessTug$Stranger" 13 "EndlessTug$Person" "side" "I" : Cond) ∈ ws0 := ws0_mem (List.mem_append_right _ (List.mem_append_left _ (List.mem_of_getElem? (i := 99) rfl))) rfl
theorem gX8_13_4 : FLk "EndlessTug$Stranger" 13 4 1 := ⟨RX4, TX4, 5, rfl, by decide, rfl, w_151, u_in4⟩
theorem w_161 : (.fieldLink "EndlessTug$Stranger" 33 "EndlessTug$Person" "tired" "I" : Cond) ∈ ws0 := ws0_mem (List.mem_append_right _ (List.mem_append_left _ (List.mem_of_getElem? (i := 109) rfl))) rfl
theorem gX8_33_4 : FLk "EndlessTug$Stranger" 33 4 3 := ⟨RX4, TX4, 5, rfl, by decide, rfl, w_161, u_in4⟩
theorem w_240 : (.fieldLink "EndlessTug$Tape" 9 "EndlessTug$Tape" "bytes" "[I" : Cond) ∈ ws0 := ws0_mem (List.mem_append_right _ (List.mem_append_left _ (List.mem_of_getElem? (i := 188) rfl))) rfl
theorem gX9_9_9 : FLk "EndlessTug$Tape" 9 9 0 := ⟨RX9, TX9, 6, rfl, by decide, rfl, w_240, u_in9⟩
theorem w_241 : (.fieldLink "EndlessTug$Tape" 15 "EndlessTug$Tape" "size" "I" : Cond) ∈ ws0 := ws0_mem (List.mem_append_right _ (List.mem_append_left _ (List.mem_of_getElem? (i := 189) rfl))) rfl
theorem gX9_15_9 : FLk "EndlessTug$Tape" 15 9 1 := ⟨RX9, TX9, 6, rfl, by decide, rfl, w_241, u_in9⟩
theorem w_245 : (.fieldLink "EndlessTug$Tape" 19 "EndlessTug$Tape" "end" "I" : Cond) ∈ ws0 := ws0_mem (List.mem_append_right _ (List.mem_append_left _ (List.mem_of_getElem? (i := 193) rfl))) rfl
theorem gX9_19_9 : FLk "EndlessTug$Tape" 19 9 4 := ⟨RX9, TX9, 6, rfl, by decide, rfl, w_245, u_in9⟩
theorem w_243 : (.fieldLink "EndlessTug$Tape" 29 "EndlessTug$Tape" "sort" "I" : Cond) ∈ ws0 := ws0_mem (List.mem_append_right _ (List.mem_append_left _ (List.mem_of_getElem? (i := 191) rfl))) rfl
theorem gX9_29_9 : FLk "EndlessTug$Tape" 29 9 2 := ⟨RX9, TX9, 6, rfl, by decide, rfl, w_243, u_in9⟩
theorem w_244 : (.fieldLink "EndlessTug$Tape" 32 "EndlessTug$Tape" "start" "I" : Cond) ∈ ws0 := ws0_mem (List.mem_append_right _ (List.mem_append_left _ (List.mem_of_getElem? (i := 192) rfl))) rfl
theorem gX9_32_9 : FLk "EndlessTug$Tape" 32 9 3 := ⟨RX9, TX9, 6, rfl, by decide, rfl, w_244, u_in9⟩
theorem w_199 : (.fieldLink "EndlessTug$Tape" 73 "EndlessTug$Green" "people" "[LEndlessTug$Person;" : Cond) ∈ ws0 := ws0_mem (List.mem_append_right _ (List.mem_append_left _ (List.mem_of_getElem? (i := 147) rfl))) rfl
theorem gX9_73_2 : FLk "EndlessTug$Tape" 73 2 6 := ⟨RX2, TX2, 7, rfl, by decide, rfl, w_199, u_in2⟩
theorem w_194 : (.fieldLink "EndlessTug$Tape" 77 "EndlessTug$Green" "size" "I" : Cond) ∈ ws0 := ws0_mem (List.mem_append_right _ (List.mem_append_left _ (List.mem_of_getElem? (i := 142) rfl))) rfl
theorem gX9_77_2 : FLk "EndlessTug$Tape" 77 2 4 := ⟨RX2, TX2, 7, rfl, by decide, rfl, w_194, u_in2⟩
theorem w_246 : (.fieldLink "EndlessTug$Tape" 88 "EndlessTug$Tape" "taken" "I" : Cond) ∈ ws0 := ws0_mem (List.mem_append_right _ (List.mem_append_left _ (List.mem_of_getElem? (i := 194) rfl))) rfl
theorem gX9_88_9 : FLk "EndlessTug$Tape" 88 9 5 := ⟨RX9, TX9, 6, rfl, by decide, rfl, w_246, u_in9⟩
theorem w_186 : (.fieldLink "EndlessTug$Tape" 103 "EndlessTug$Green" "harvest" "I" : Cond) ∈ ws0 := ws0_mem (List.mem_append_right _ (List.mem_append_left _ (List.mem_of_getElem? (i := 134) rfl))) rfl
theorem gX9_103_2 : FLk "EndlessTug$Tape" 103 2 1 := ⟨RX2, TX2, 7, rfl, by decide, rfl, w_186, u_in2⟩
theorem w_162 : (.fieldLink "EndlessTug$Woman" 27 "EndlessTug$Person" "tired" "I" : Cond) ∈ ws0 := ws0_mem (List.mem_append_right _ (List.mem_append_left _ (List.mem_of_getElem? (i := 110) rfl))) rfl
theorem gX10_27_4 : FLk "EndlessTug$Woman" 27 4 3 := ⟨RX4, TX4, 5, rfl, by decide, rfl, w_162, u_in4⟩
theorem w_866 : (.fieldLink "EndlessTugModel" 9 "EndlessTugModel" "s" "[I" : Cond) ∈ ws0 := ws0_mem (List.mem_append_right _ (List.mem_append_right _ (List.mem_append_right _ (List.mem_append_right _ (List.mem_append_left _ (List.mem_of_getElem? (i := 94) rfl)))))) rfl
theorem gX12_9_12 : FLk "EndlessTugModel" 9 12 0 := ⟨RX12, TX12, 19, rfl, by decide, rfl, w_866, u_in12⟩
theorem w_867 : (.fieldLink "EndlessTugModel" 13 "EndlessTugModel" "kept" "[I" : Cond) ∈ ws0 := ws0_mem (List.mem_append_right _ (List.mem_append_right _ (List.mem_append_right _ (List.mem_append_right _ (List.mem_append_left _ (List.mem_of_getElem? (i := 95) rfl)))))) rfl
theorem gX12_13_12 : FLk "EndlessTugModel" 13 12 1 := ⟨RX12, TX12, 19, rfl, by decide, rfl, w_867, u_in12⟩
theorem w_868 : (.fieldLink "EndlessTugModel" 16 "EndlessTugModel" "aside" "[I" : Cond) ∈ ws0 := ws0_mem (List.mem_append_right _ (List.mem_append_right _ (List.mem_append_right _ (List.mem_append_right _ (List.mem_append_left _ (List.mem_of_getElem? (i := 96) rfl)))))) rfl
theorem gX12_16_12 : FLk "EndlessTugModel" 16 12 2 := ⟨RX12, TX12, 19, rfl, by decide, rfl, w_868, u_in12⟩
theorem w_870 : (.fieldLink "EndlessTugModel" 19 "EndlessTugModel" "found" "[I" : Cond) ∈ ws0 := ws0_mem (List.mem_append_right _ (List.mem_append_right _ (List.mem_append_right _ (List.mem_append_right _ (List.mem_append_left _ (List.mem_of_getElem? (i := 98) rfl)))))) rfl
theorem gX12_19_12 : FLk "EndlessTugModel" 19 12 4 := ⟨RX12, TX12, 19, rfl, by decide, rfl, w_870, u_in12⟩
theorem w_871 : (.fieldLink "EndlessTugModel" 22 "EndlessTugModel" "tape" "[I" : Cond) ∈ ws0 := ws0_mem (List.mem_append_right _ (List.mem_append_right _ (List.mem_append_right _ (List.mem_append_right _ (List.mem_append_left _ (List.mem_of_getElem? (i := 99) rfl)))))) rfl
theorem gX12_22_12 : FLk "EndlessTugModel" 22 12 5 := ⟨RX12, TX12, 19, rfl, by decide, rfl, w_871, u_in12⟩
theorem w_877 : (.fieldLink "EndlessTugModel" 25 "EndlessTugModel" "letters" "[C" : Cond) ∈ ws0 := ws0_mem (List.mem_append_right _ (List.mem_append_right _ (List.mem_append_right _ (List.mem_append_right _ (List.mem_append_left _ (List.mem_of_getElem? (i := 105) rfl)))))) rfl
theorem gX12_25_12 : FLk "EndlessTugModel" 25 12 11 := ⟨RX12, TX12, 19, rfl, by decide, rfl, w_877, u_in12⟩
theorem w_878 : (.fieldLink "EndlessTugModel" 29 "EndlessTugModel" "sides" "[C" : Cond) ∈ ws0 := ws0_mem (List.mem_append_right _ (List.mem_append_right _ (List.mem_append_right _ (List.mem_append_right _ (List.mem_append_left _ (List.mem_of_getElem? (i := 106) rfl)))))) rfl
theorem gX12_29_12 : FLk "EndlessTugModel" 29 12 12 := ⟨RX12, TX12, 19, rfl, by decide, rfl, w_878, u_in12⟩
theorem w_879 : (.fieldLink "EndlessTugModel" 32 "EndlessTugModel" "more" "[C" : Cond) ∈ ws0 := ws0_mem (List.mem_append_right _ (List.mem_append_right _ (List.mem_append_right _ (List.mem_append_right _ (List.mem_append_left _ (List.mem_of_getElem? (i := 107) rfl)))))) rfl
theorem gX12_32_12 : FLk "EndlessTugModel" 32 12 13 := ⟨RX12, TX12, 19, rfl, by decide, rfl, w_879, u_in12⟩
theorem w_880 : (.fieldLink "EndlessTugModel" 35 "EndlessTugModel" "others" "[C" : Cond) ∈ ws0 := ws0_mem (List.mem_append_right _ (List.mem_append_right _ (List.mem_append_right _ (List.mem_append_right _ (List.mem_append_left _ (List.mem_of_getElem? (i := 108) rfl)))))) rfl
theorem gX12_35_12 : FLk "EndlessTugModel" 35 12 14 := ⟨RX12, TX12, 19, rfl, by decide, rfl, w_880, u_in12⟩
theorem w_881 : (.fieldLink "EndlessTugModel" 38 "EndlessTugModel" "widths" "[I" : Cond) ∈ ws0 := ws0_mem (List.mem_append_right _ (List.mem_append_right _ (List.mem_append_right _ (List.mem_append_right _ (List.mem_append_left _ (List.mem_of_getElem? (i := 109) rfl)))))) rfl
theorem gX12_38_12 : FLk "EndlessTugModel" 38 12 15 := ⟨RX12, TX12, 19, rfl, by decide, rfl, w_881, u_in12⟩
theorem w_882 : (.fieldLink "EndlessTugModel" 41 "EndlessTugModel" "sizes" "[I" : Cond) ∈ ws0 := ws0_mem (List.mem_append_right _ (List.mem_append_right _ (List.mem_append_right _ (List.mem_append_right _ (List.mem_append_left _ (List.mem_of_getElem? (i := 110) rfl)))))) rfl
theorem gX12_41_12 : FLk "EndlessTugModel" 41 12 16 := ⟨RX12, TX12, 19, rfl, by decide, rfl, w_882, u_in12⟩
theorem w_883 : (.fieldLink "EndlessTugModel" 44 "EndlessTugModel" "cells" "[J" : Cond) ∈ ws0 := ws0_mem (List.mem_append_right _ (List.mem_append_right _ (List.mem_append_right _ (List.mem_append_right _ (List.mem_append_left _ (List.mem_of_getElem? (i := 111) rfl)))))) rfl
theorem gX12_44_12 : FLk "EndlessTugModel" 44 12 17 := ⟨RX12, TX12, 19, rfl, by decide, rfl, w_883, u_in12⟩
theorem w_884 : (.fieldLink "EndlessTugModel" 48 "EndlessTugModel" "carried" "[J" : Cond) ∈ ws0 := ws0_mem (List.mem_append_right _ (List.mem_append_right _ (List.mem_append_right _ (List.mem_append_right _ (List.mem_append_left _ (List.mem_of_getElem? (i := 112) rfl)))))) rfl
theorem gX12_48_12 : FLk "EndlessTugModel" 48 12 18 := ⟨RX12, TX12, 19, rfl, by decide, rfl, w_884, u_in12⟩
theorem w_872 : (.fieldLink "EndlessTugModel" 154 "EndlessTugModel" "taped" "I" : Cond) ∈ ws0 := ws0_mem (List.mem_append_right _ (List.mem_append_right _ (List.mem_append_right _ (List.mem_append_right _ (List.mem_append_left _ (List.mem_of_getElem? (i := 100) rfl)))))) rfl
theorem gX12_154_12 : FLk "EndlessTugModel" 154 12 6 := ⟨RX12, TX12, 19, rfl, by decide, rfl, w_872, u_in12⟩
theorem w_875 : (.fieldLink "EndlessTugModel" 158 "EndlessTugModel" "ended" "I" : Cond) ∈ ws0 := ws0_mem (List.mem_append_right _ (List.mem_append_right _ (List.mem_append_right _ (List.mem_append_right _ (List.mem_append_left _ (List.mem_of_getElem? (i := 103) rfl)))))) rfl
theorem gX12_158_12 : FLk "EndlessTugModel" 158 12 9 := ⟨RX12, TX12, 19, rfl, by decide, rfl, w_875, u_in12⟩
theorem w_874 : (.fieldLink "EndlessTugModel" 161 "EndlessTugModel" "begun" "I" : Cond) ∈ ws0 := ws0_mem (List.mem_append_right _ (List.mem_append_right _ (List.mem_append_right _ (List.mem_append_right _ (List.mem_append_left _ (List.mem_of_getElem? (i := 102) rfl)))))) rfl
theorem gX12_161_12 : FLk "EndlessTugModel" 161 12 8 := ⟨RX12, TX12, 19, rfl, by decide, rfl, w_874, u_in12⟩
theorem w_876 : (.fieldLink "EndlessTugModel" 164 "EndlessTugModel" "value" "J" : Cond) ∈ ws0 := ws0_mem (List.mem_append_right _ (List.mem_append_right _ (List.mem_append_right _ (List.mem_append_right _ (List.mem_append_left _ (List.mem_of_getElem? (i := 104) rfl)))))) rfl
theorem gX12_164_12 : FLk "EndlessTugModel" 164 12 10 := ⟨RX12, TX12, 19, rfl, by decide, rfl, w_876, u_in12⟩
theorem w_873 : (.fieldLink "EndlessTugModel" 168 "EndlessTugModel" "token" "I" : Cond) ∈ ws0 := ws0_mem (List.mem_append_right _ (List.mem_append_right _ (List.mem_append_right _ (List.mem_append_right _ (List.mem_append_left _ (List.mem_of_getElem? (i := 101) rfl)))))) rfl
theorem gX12_168_12 : FLk "EndlessTugModel" 168 12 7 := ⟨RX12, TX12, 19, rfl, by decide, rfl, w_873, u_in12⟩
theorem w_869 : (.fieldLink "EndlessTugModel" 231 "EndlessTugModel" "isKept" "Z" : Cond) ∈ ws0 := ws0_mem (List.mem_append_right _ (List.mem_append_right _ (List.mem_append_right _ (List.mem_append_right _ (List.mem_append_left _ (List.mem_of_getElem? (i := 97) rfl)))))) rfl
theorem gX12_231_12 : FLk "EndlessTugModel" 231 12 3 := ⟨RX12, TX12, 19, rfl, by decide, rfl, w_869, u_in12⟩
theorem pX11_10_11i : FPk "EndlessTug" "<init>" 10 11 0 := ⟨RX11, TX11, 8, rfl, by decide, rfl, w_284, u_in11, tyX11_ok, nmX11, Or.inr ⟨rfl, rfl, rfl⟩⟩
theorem pX11_16_11i : FPk "EndlessTug" "<init>" 16 11 1 := ⟨RX11, TX11, 8, rfl, by decide, rfl, w_285, u_in11, tyX11_ok, nmX11, Or.inr ⟨rfl, rfl, rfl⟩⟩
theorem pX11_19_11i : FPk "EndlessTug" "<init>" 19 11 2 := ⟨RX11, TX11, 8, rfl, by decide, rfl, w_286, u_in11, tyX11_ok, nmX11, Or.inr ⟨rfl, rfl, rfl⟩⟩
theorem pX11_25_11i : FPk "EndlessTug" "<init>" 25 11 4 := ⟨RX11, TX11, 8, rfl, by decide, rfl, w_288, u_in11, tyX11_ok, nmX11, Or.inr ⟨rfl, rfl, rfl⟩⟩
theorem pX11_32_11i : FPk "EndlessTug" "<init>" 32 11 5 := ⟨RX11, TX11, 8, rfl, by decide, rfl, w_289, u_in11, tyX11_ok, nmX11, Or.inr ⟨rfl, rfl, rfl⟩⟩
theorem pX11_38_11i : FPk "EndlessTug" "<init>" 38 11 6 := ⟨RX11, TX11, 8, rfl, by decide, rfl, w_290, u_in11, tyX11_ok, nmX11, Or.inr ⟨rfl, rfl, rfl⟩⟩
theorem pX11_42_11i : FPk "EndlessTug" "<init>" 42 11 7 := ⟨RX11, TX11, 8, rfl, by decide, rfl, w_291, u_in11, tyX11_ok, nmX11, Or.inr ⟨rfl, rfl, rfl⟩⟩
theorem pX11_56_2 (nm : String) : FPk "EndlessTug" nm 56 2 3 := ⟨RX2, TX2, 7, rfl, by decide, rfl, w_191, u_in2, tyX2_ok, nmX2, Or.inl rfl⟩
theorem pX11_60_2 (nm : String) : FPk "EndlessTug" nm 60 2 1 := ⟨RX2, TX2, 7, rfl, by decide, rfl, w_185, u_in2, tyX2_ok, nmX2, Or.inl rfl⟩
theorem pX11_63_2 (nm : String) : FPk "EndlessTug" nm 63 2 2 := ⟨RX2, TX2, 7, rfl, by decide, rfl, w_188, u_in2, tyX2_ok, nmX2, Or.inl rfl⟩
theorem pX11_114_4 (nm : String) : FPk "EndlessTug" nm 114 4 0 := ⟨RX4, TX4, 5, rfl, by decide, rfl, w_149, u_in4, tyX4_ok, nmX4, Or.inl rfl⟩
theorem pX11_125_4 (nm : String) : FPk "EndlessTug" nm 125 4 1 := ⟨RX4, TX4, 5, rfl, by decide, rfl, w_153, u_in4, tyX4_ok, nmX4, Or.inl rfl⟩
theorem pX11_128_4 (nm : String) : FPk "EndlessTug" nm 128 4 2 := ⟨RX4, TX4, 5, rfl, by decide, rfl, w_157, u_in4, tyX4_ok, nmX4, Or.inl rfl⟩
theorem pX11_131_4 (nm : String) : FPk "EndlessTug" nm 131 4 3 := ⟨RX4, TX4, 5, rfl, by decide, rfl, w_165, u_in4, tyX4_ok, nmX4, Or.inl rfl⟩
theorem pX11_134_4 (nm : String) : FPk "EndlessTug" nm 134 4 4 := ⟨RX4, TX4, 5, rfl, by decide, rfl, w_170, u_in4, tyX4_ok, nmX4, Or.inl rfl⟩
theorem pX11_209_9 (nm : String) : FPk "EndlessTug" nm 209 9 1 := ⟨RX9, TX9, 6, rfl, by decide, rfl, w_242, u_in9, tyX9_ok, nmX9, Or.inl rfl⟩
theorem pX11_254_11 (nm : String) : FPk "EndlessTug" nm 254 11 3 := ⟨RX11, TX11, 8, rfl, by decide, rfl, w_287, u_in11, tyX11_ok, nmX11, Or.inl rfl⟩
theorem pX0_7_0 (nm : String) : FPk "EndlessTug$Best" nm 7 0 0 := ⟨RX0, TX0, 3, rfl, by decide, rfl, w_222, u_in0, tyX0_ok, nmX0, Or.inl rfl⟩
theorem w_224 : (.fieldLink "EndlessTug$Best" 13 "EndlessTug$Best" "which" "I" : Cond) ∈ ws0 := ws0_mem (List.mem_append_right _ (List.mem_append_left _ (List.mem_of_getElem? (i := 172) rfl))) rfl
theorem pX0_13_0 (nm : String) : FPk "EndlessTug$Best" nm 13 0 1 := ⟨RX0, TX0, 3, rfl, by decide, rfl, w_224, u_in0, tyX0_ok, nmX0, Or.inl rfl⟩
theorem pX0_17_0 (nm : String) : FPk "EndlessTug$Best" nm 17 0 2 := ⟨RX0, TX0, 3, rfl, by decide, rfl, w_226, u_in0, tyX0_ok, nmX0, Or.inl rfl⟩
theorem pX2_9_2i (nm : String) : FPk "EndlessTug$Green" nm 9 2 1 := ⟨RX2, TX2, 7, rfl, by decide, rfl, w_184, u_in2, tyX2_ok, nmX2, Or.inl rfl⟩
theorem pX2_9_2 (nm : String) : FPk "EndlessTug$Green" nm 9 2 1 := ⟨RX2, TX2, 7, rfl, by decide, rfl, w_184, u_in2, tyX2_ok, nmX2, Or.inl rfl⟩
theorem pX2_15_2i (nm : String) : FPk "EndlessTug$Green" nm 15 2 3 := ⟨RX2, TX2, 7, rfl, by decide, rfl, w_190, u_in2, tyX2_ok, nmX2, Or.inl rfl⟩
theorem pX2_15_2 (nm : String) : FPk "EndlessTug$Green" nm 15 2 3 := ⟨RX2, TX2, 7, rfl, by decide, rfl, w_190, u_in2, tyX2_ok, nmX2, Or.inl rfl⟩
theorem pX2_20_2i : FPk "EndlessTug$Green" "<init>" 20 2 5 := ⟨RX2, TX2, 7, rfl, by decide, rfl, w_196, u_in2, tyX2_ok, nmX2, Or.inr ⟨rfl, rfl, rfl⟩⟩
theorem pX2_26_2i : FPk "EndlessTug$Green" "<init>" 26 2 6 := ⟨RX2, TX2, 7, rfl, by decide, rfl, w_198, u_in2, tyX2_ok, nmX2, Or.inr ⟨rfl, rfl, rfl⟩⟩
theorem pX2_51_2 (nm : String) : FPk "EndlessTug$Green" nm 51 2 0 := ⟨RX2, TX2, 7, rfl, by decide, rfl, w_182, u_in2, tyX2_ok, nmX2, Or.inl rfl⟩
theorem pX2_54_2 (nm : String) : FPk "EndlessTug$Green" nm 54 2 2 := ⟨RX2, TX2, 7, rfl, by decide, rfl, w_187, u_in2, tyX2_ok, nmX2, Or.inl rfl⟩
theorem pX2_57_2 (nm : String) : FPk "EndlessTug$Green" nm 57 2 4 := ⟨RX2, TX2, 7, rfl, by decide, rfl, w_193, u_in2, tyX2_ok, nmX2, Or.inl rfl⟩
theorem pX2_72_4 (nm : String) : FPk "EndlessTug$Green" nm 72 4 0 := ⟨RX4, TX4, 5, rfl, by decide, rfl, w_148, u_in4, tyX4_ok, nmX4, Or.inl rfl⟩
theorem pX2_76_4 (nm : String) : FPk "EndlessTug$Green" nm 76 4 1 := ⟨RX4, TX4, 5, rfl, by decide, rfl, w_152, u_in4, tyX4_ok, nmX4, Or.inl rfl⟩
theorem pX2_79_4 (nm : String) : FPk "EndlessTug$Green" nm 79 4 2 := ⟨RX4, TX4, 5, rfl, by decide, rfl, w_155, u_in4, tyX4_ok, nmX4, Or.inl rfl⟩
theorem pX2_82_4 (nm : String) : FPk "EndlessTug$Green" nm 82 4 3 := ⟨RX4, TX4, 5, rfl, by decide, rfl, w_163, u_in4, tyX4_ok, nmX4, Or.inl rfl⟩
theorem w_168 : (.fieldLink "EndlessTug$Green" 85 "EndlessTug$Person" "strong" "I" : Cond) ∈ ws0 := ws0_mem (List.mem_append_right _ (List.mem_append_left _ (List.mem_of_getElem? (i := 116) rfl))) rfl
theorem pX2_85_4 (nm : String) : FPk "EndlessTug$Green" nm 85 4 4 := ⟨RX4, TX4, 5, rfl, by decide, rfl, w_168, u_in4, tyX4_ok, nmX4, Or.inl rfl⟩
theorem w_97 : (.fieldLink "EndlessTug$Man" 9 "EndlessTug$Man" "number" "I" : Cond) ∈ ws0 := ws0_mem (List.mem_append_right _ (List.mem_append_left _ (List.mem_of_getElem? (i := 45) rfl))) rfl
theorem pX3_9_1i : FPk "EndlessTug$Man" "<init>" 9 1 0 := ⟨RX1, TX1, 1, rfl, by decide, rfl, w_97, u_in1, tyX1_ok, nmX1, Or.inr ⟨rfl, rfl, rfl⟩⟩
theorem pX3_9_3i : FPk "EndlessTug$Man" "<init>" 9 3 0 := ⟨RX3, TX3, 1, rfl, by decide, rfl, w_97, u_in3, tyX3_ok, nmX3, Or.inr ⟨rfl, rfl, rfl⟩⟩
theorem pX3_9_5i : FPk "EndlessTug$Man" "<init>" 9 5 0 := ⟨RX5, TX5, 1, rfl, by decide, rfl, w_97, u_in5, tyX5_ok, nmX5, Or.inr ⟨rfl, rfl, rfl⟩⟩
theorem pX3_9_7i : FPk "EndlessTug$Man" "<init>" 9 7 0 := ⟨RX7, TX7, 1, rfl, by decide, rfl, w_97, u_in7, tyX7_ok, nmX7, Or.inr ⟨rfl, rfl, rfl⟩⟩
theorem pX3_9_8i : FPk "EndlessTug$Man" "<init>" 9 8 0 := ⟨RX8, TX8, 1, rfl, by decide, rfl, w_97, u_in8, tyX8_ok, nmX8, Or.inr ⟨rfl, rfl, rfl⟩⟩
theorem pX3_9_10i : FPk "EndlessTug$Man" "<init>" 9 10 0 := ⟨RX10, TX10, 1, rfl, by decide, rfl, w_97, u_in10, tyX10_ok, nmX10, Or.inr ⟨rfl, rfl, rfl⟩⟩
theorem pX4_9_4i (nm : String) : FPk "EndlessTug$Person" nm 9 4 0 := ⟨RX4, TX4, 5, rfl, by decide, rfl, w_147, u_in4, tyX4_ok, nmX4, Or.inl rfl⟩
theorem pX4_9_4 (nm : String) : FPk "EndlessTug$Person" nm 9 4 0 := ⟨RX4, TX4, 5, rfl, by decide, rfl, w_147, u_in4, tyX4_ok, nmX4, Or.inl rfl⟩
theorem pX4_15_4 (nm : String) : FPk "EndlessTug$Person" nm 15 4 1 := ⟨RX4, TX4, 5, rfl, by decide, rfl, w_150, u_in4, tyX4_ok, nmX4, Or.inl rfl⟩
theorem pX4_19_4 (nm : String) : FPk "EndlessTug$Person" nm 19 4 2 := ⟨RX4, TX4, 5, rfl, by decide, rfl, w_154, u_in4, tyX4_ok, nmX4, Or.inl rfl⟩
theorem pX4_22_4 (nm : String) : FPk "EndlessTug$Person" nm 22 4 3 := ⟨RX4, TX4, 5, rfl, by decide, rfl, w_158, u_in4, tyX4_ok, nmX4, Or.inl rfl⟩
theorem pX4_25_4 (nm : String) : FPk "EndlessTug$Person" nm 25 4 4 := ⟨RX4, TX4, 5, rfl, by decide, rfl, w_166, u_in4, tyX4_ok, nmX4, Or.inl rfl⟩
theorem pX6_9_6i : FPk "EndlessTug$Sheet" "<init>" 9 6 2 := ⟨RX6, TX6, 3, rfl, by decide, rfl, w_273, u_in6, tyX6_ok, nmX6, Or.inr ⟨rfl, rfl, rfl⟩⟩
theorem pX6_15_6 (nm : String) : FPk "EndlessTug$Sheet" nm 15 6 0 := ⟨RX6, TX6, 3, rfl, by decide, rfl, w_268, u_in6, tyX6_ok, nmX6, Or.inl rfl⟩
theorem pX6_19_6 (nm : String) : FPk "EndlessTug$Sheet" nm 19 6 1 := ⟨RX6, TX6, 3, rfl, by decide, rfl, w_270, u_in6, tyX6_ok, nmX6, Or.inl rfl⟩
theorem pX9_9_9i : FPk "EndlessTug$Tape" "<init>" 9 9 0 := ⟨RX9, TX9, 6, rfl, by decide, rfl, w_240, u_in9, tyX9_ok, nmX9, Or.inr ⟨rfl, rfl, rfl⟩⟩
theorem pX9_15_9 (nm : String) : FPk "EndlessTug$Tape" nm 15 9 1 := ⟨RX9, TX9, 6, rfl, by decide, rfl, w_241, u_in9, tyX9_ok, nmX9, Or.inl rfl⟩
theorem pX9_19_9 (nm : String) : FPk "EndlessTug$Tape" nm 19 9 4 := ⟨RX9, TX9, 6, rfl, by decide, rfl, w_245, u_in9, tyX9_ok, nmX9, Or.inl rfl⟩
theorem pX9_29_9 (nm : String) : FPk "EndlessTug$Tape" nm 29 9 2 := ⟨RX9, TX9, 6, rfl, by decide, rfl, w_243, u_in9, tyX9_ok, nmX9, Or.inl rfl⟩
theorem pX9_32_9 (nm : String) : FPk "EndlessTug$Tape" nm 32 9 3 := ⟨RX9, TX9, 6, rfl, by decide, rfl, w_244, u_in9, tyX9_ok, nmX9, Or.inl rfl⟩
theorem pX9_88_9 (nm : String) : FPk "EndlessTug$Tape" nm 88 9 5 := ⟨RX9, TX9, 6, rfl, by decide, rfl, w_246, u_in9, tyX9_ok, nmX9, Or.inl rfl⟩
theorem w_169 : (.fieldLink "EndlessTug$Tape" 91 "EndlessTug$Person" "strong" "I" : Cond) ∈ ws0 := ws0_mem (List.mem_append_right _ (List.mem_append_left _ (List.mem_of_getElem? (i := 117) rfl))) rfl
theorem pX9_91_4 (nm : String) : FPk "EndlessTug$Tape" nm 91 4 4 := ⟨RX4, TX4, 5, rfl, by decide, rfl, w_169, u_in4, tyX4_ok, nmX4, Or.inl rfl⟩
theorem w_164 : (.fieldLink "EndlessTug$Tape" 97 "EndlessTug$Person" "tired" "I" : Cond) ∈ ws0 := ws0_mem (List.mem_append_right _ (List.mem_append_left _ (List.mem_of_getElem? (i := 112) rfl))) rfl
theorem pX9_97_4 (nm : String) : FPk "EndlessTug$Tape" nm 97 4 3 := ⟨RX4, TX4, 5, rfl, by decide, rfl, w_164, u_in4, tyX4_ok, nmX4, Or.inl rfl⟩
theorem w_156 : (.fieldLink "EndlessTug$Tape" 101 "EndlessTug$Person" "on" "I" : Cond) ∈ ws0 := ws0_mem (List.mem_append_right _ (List.mem_append_left _ (List.mem_of_getElem? (i := 104) rfl))) rfl
theorem pX9_101_4 (nm : String) : FPk "EndlessTug$Tape" nm 101 4 2 := ⟨RX4, TX4, 5, rfl, by decide, rfl, w_156, u_in4, tyX4_ok, nmX4, Or.inl rfl⟩
theorem pX9_103_2 (nm : String) : FPk "EndlessTug$Tape" nm 103 2 1 := ⟨RX2, TX2, 7, rfl, by decide, rfl, w_186, u_in2, tyX2_ok, nmX2, Or.inl rfl⟩
theorem w_189 : (.fieldLink "EndlessTug$Tape" 105 "EndlessTug$Green" "knot" "I" : Cond) ∈ ws0 := ws0_mem (List.mem_append_right _ (List.mem_append_left _ (List.mem_of_getElem? (i := 137) rfl))) rfl
theorem pX9_105_2 (nm : String) : FPk "EndlessTug$Tape" nm 105 2 2 := ⟨RX2, TX2, 7, rfl, by decide, rfl, w_189, u_in2, tyX2_ok, nmX2, Or.inl rfl⟩
theorem w_192 : (.fieldLink "EndlessTug$Tape" 107 "EndlessTug$Green" "slack" "I" : Cond) ∈ ws0 := ws0_mem (List.mem_append_right _ (List.mem_append_left _ (List.mem_of_getElem? (i := 140) rfl))) rfl
theorem pX9_107_2 (nm : String) : FPk "EndlessTug$Tape" nm 107 2 3 := ⟨RX2, TX2, 7, rfl, by decide, rfl, w_192, u_in2, tyX2_ok, nmX2, Or.inl rfl⟩
theorem pX12_9_12i : FPk "EndlessTugModel" "<init>" 9 12 0 := ⟨RX12, TX12, 19, rfl, by decide, rfl, w_866, u_in12, tyX12_ok, nmX12, Or.inr ⟨rfl, rfl, rfl⟩⟩
theorem pX12_13_12i : FPk "EndlessTugModel" "<init>" 13 12 1 := ⟨RX12, TX12, 19, rfl, by decide, rfl, w_867, u_in12, tyX12_ok, nmX12, Or.inr ⟨rfl, rfl, rfl⟩⟩
theorem pX12_16_12i : FPk "EndlessTugModel" "<init>" 16 12 2 := ⟨RX12, TX12, 19, rfl, by decide, rfl, w_868, u_in12, tyX12_ok, nmX12, Or.inr ⟨rfl, rfl, rfl⟩⟩
theorem pX12_19_12i : FPk "EndlessTugModel" "<init>" 19 12 4 := ⟨RX12, TX12, 19, rfl, by decide, rfl, w_870, u_in12, tyX12_ok, nmX12, Or.inr ⟨rfl, rfl, rfl⟩⟩
theorem pX12_22_12i : FPk "EndlessTugModel" "<init>" 22 12 5 := ⟨RX12, TX12, 19, rfl, by decide, rfl, w_871, u_in12, tyX12_ok, nmX12, Or.inr ⟨rfl, rfl, rfl⟩⟩
theorem pX12_25_12i : FPk "EndlessTugModel" "<init>" 25 12 11 := ⟨RX12, TX12, 19, rfl, by decide, rfl, w_877, u_in12, tyX12_ok, nmX12, Or.inr ⟨rfl, rfl, rfl⟩⟩
theorem pX12_29_12i : FPk "EndlessTugModel" "<init>" 29 12 12 := ⟨RX12, TX12, 19, rfl, by decide, rfl, w_878, u_in12, tyX12_ok, nmX12, Or.inr ⟨rfl, rfl, rfl⟩⟩
theorem pX12_32_12i : FPk "EndlessTugModel" "<init>" 32 12 13 := ⟨RX12, TX12, 19, rfl, by decide, rfl, w_879, u_in12, tyX12_ok, nmX12, Or.inr ⟨rfl, rfl, rfl⟩⟩
theorem pX12_35_12i : FPk "EndlessTugModel" "<init>" 35 12 14 := ⟨RX12, TX12, 19, rfl, by decide, rfl, w_880, u_in12, tyX12_ok, nmX12, Or.inr ⟨rfl, rfl, rfl⟩⟩
theorem pX12_38_12i : FPk "EndlessTugModel" "<init>" 38 12 15 := ⟨RX12, TX12, 19, rfl, by decide, rfl, w_881, u_in12, tyX12_ok, nmX12, Or.inr ⟨rfl, rfl, rfl⟩⟩
theorem pX12_41_12i : FPk "EndlessTugModel" "<init>" 41 12 16 := ⟨RX12, TX12, 19, rfl, by decide, rfl, w_882, u_in12, tyX12_ok, nmX12, Or.inr ⟨rfl, rfl, rfl⟩⟩
theorem pX12_44_12i : FPk "EndlessTugModel" "<init>" 44 12 17 := ⟨RX12, TX12, 19, rfl, by decide, rfl, w_883, u_in12, tyX12_ok, nmX12, Or.inr ⟨rfl, rfl, rfl⟩⟩
theorem pX12_48_12i : FPk "EndlessTugModel" "<init>" 48 12 18 := ⟨RX12, TX12, 19, rfl, by decide, rfl, w_884, u_in12, tyX12_ok, nmX12, Or.inr ⟨rfl, rfl, rfl⟩⟩
theorem pX12_154_12 (nm : String) : FPk "EndlessTugModel" nm 154 12 6 := ⟨RX12, TX12, 19, rfl, by decide, rfl, w_872, u_in12, tyX12_ok, nmX12, Or.inl rfl⟩
theorem pX12_158_12 (nm : String) : FPk "EndlessTugModel" nm 158 12 9 := ⟨RX12, TX12, 19, rfl, by decide, rfl, w_875, u_in12, tyX12_ok, nmX12, Or.inl rfl⟩
theorem pX12_161_12 (nm : String) : FPk "EndlessTugModel" nm 161 12 8 := ⟨RX12, TX12, 19, rfl, by decide, rfl, w_874, u_in12, tyX12_ok, nmX12, Or.inl rfl⟩
theorem pX12_164_12 (nm : String) : FPk "EndlessTugModel" nm 164 12 10 := ⟨RX12, TX12, 19, rfl, by decide, rfl, w_876, u_in12, tyX12_ok, nmX12, Or.inl rfl⟩
theorem pX12_168_12 (nm : String) : FPk "EndlessTugModel" nm 168 12 7 := ⟨RX12, TX12, 19, rfl, by decide, rfl, w_873, u_in12, tyX12_ok, nmX12, Or.inl rfl⟩
theorem pX12_231_12 (nm : String) : FPk "EndlessTugModel" nm 231 12 3 := ⟨RX12, TX12, 19, rfl, by decide, rfl, w_869, u_in12, tyX12_ok, nmX12, Or.inl rfl⟩
theorem w_1263 : (.fieldLink "java/lang/String" 9 "java/lang/String" "value" "[B" : Cond) ∈ ws0 := ws0_mem (List.mem_append_right _ (List.mem_append_right _ (List.mem_append_right _ (List.mem_append_right _ (List.mem_append_right _ (List.mem_append_right _ (List.mem_of_getElem? (i := 11) rfl))))))) rfl
theorem w_1264 : (.fieldLink "java/lang/String" 15 "java/lang/String" "coder" "B" : Cond) ∈ ws0 := ws0_mem (List.mem_append_right _ (List.mem_append_right _ (List.mem_append_right _ (List.mem_append_right _ (List.mem_append_right _ (List.mem_append_right _ (List.mem_of_getElem? (i := 12) rfl))))))) rfl
theorem w_691 : (.fieldLink "java/lang/String" 38 "java/lang/String" "COMPACT_STRINGS" "Z" : Cond) ∈ ws0 := ws0_mem (List.mem_append_right _ (List.mem_append_right _ (List.mem_append_right _ (List.mem_append_left _ (List.mem_of_getElem? (i := 159) rfl))))) rfl
theorem w_707 : (.fieldLink "java/lang/String" 1053 "jdk/internal/util/Preconditions" "SIOOBE_FORMATTER" "Ljava/util/function/BiFunction;" : Cond) ∈ ws0 := ws0_mem (List.mem_append_right _ (List.mem_append_right _ (List.mem_append_right _ (List.mem_append_left _ (List.mem_of_getElem? (i := 175) rfl))))) rfl
theorem w_725 : (.fieldLink "java/lang/StringUTF16" 44 "java/lang/StringUTF16" "$assertionsDisabled" "Z" : Cond) ∈ ws0 := ws0_mem (List.mem_append_right _ (List.mem_append_right _ (List.mem_append_right _ (List.mem_append_left _ (List.mem_of_getElem? (i := 193) rfl))))) rfl
theorem w_727 : (.fieldLink "java/lang/StringUTF16" 59 "java/lang/StringUTF16" "HI_BYTE_SHIFT" "I" : Cond) ∈ ws0 := ws0_mem (List.mem_append_right _ (List.mem_append_right _ (List.mem_append_right _ (List.mem_append_left _ (List.mem_of_getElem? (i := 195) rfl))))) rfl
theorem w_729 : (.fieldLink "java/lang/StringUTF16" 63 "java/lang/StringUTF16" "LO_BYTE_SHIFT" "I" : Cond) ∈ ws0 := ws0_mem (List.mem_append_right _ (List.mem_append_right _ (List.mem_append_right _ (List.mem_append_left _ (List.mem_of_getElem? (i := 197) rfl))))) rfl
theorem w_88 : (.classLink "EndlessTug$Green" 18 "EndlessTug$Man" : Cond) ∈ ws0 := ws0_mem (List.mem_append_right _ (List.mem_append_left _ (List.mem_of_getElem? (i := 36) rfl))) rfl
theorem w_90 : (.classLink "EndlessTug$Green" 24 "EndlessTug$Person" : Cond) ∈ ws0 := ws0_mem (List.mem_append_right _ (List.mem_append_left _ (List.mem_of_getElem? (i := 38) rfl))) rfl
theorem w_92 : (.instantiable "EndlessTug$Man" 1 : Cond) ∈ ws0 := ws0_mem (List.mem_append_right _ (List.mem_append_left _ (List.mem_of_getElem? (i := 40) rfl))) rfl
theorem nX2_18 : NWk "EndlessTug$Green" 18 3 := ⟨RX3, TX3, 1, rfl, rfl, List.forall_mem_cons.mpr ⟨w_88, List.forall_mem_cons.mpr ⟨w_92, List.forall_mem_cons.mpr ⟨w_55, fun _ h => absurd h List.not_mem_nil⟩⟩⟩, u_in3, tyX3_ok, fun k hk ad p => by
  match k, hk with
  | 0, _ => simp [fv, p0, va_up, va_rf, tyF, ftc, tyX3, defaultValue]
  | k + 1, hk => omega⟩
theorem w_102 : (.classLink "EndlessTug$Green" 33 "EndlessTug$Son" : Cond) ∈ ws0 := ws0_mem (List.mem_append_right _ (List.mem_append_left _ (List.mem_of_getElem? (i := 50) rfl))) rfl
theorem w_103 : (.instantiable "EndlessTug$Son" 1 : Cond) ∈ ws0 := ws0_mem (List.mem_append_right _ (List.mem_append_left _ (List.mem_of_getElem? (i := 51) rfl))) rfl
theorem nX2_33 : NWk "EndlessTug$Green" 33 7 := ⟨RX7, TX7, 1, rfl, rfl, List.forall_mem_cons.mpr ⟨w_102, List.forall_mem_cons.mpr ⟨w_103, List.forall_mem_cons.mpr ⟨w_56, fun _ h => absurd h List.not_mem_nil⟩⟩⟩, u_in7, tyX7_ok, fun k hk ad p => by
  match k, hk with
  | 0, _ => simp [fv, p0, va_up, va_rf, tyF, ftc, tyX7, defaultValue]
  | k + 1, hk => omega⟩
theorem w_110 : (.classLink "EndlessTug$Green" 36 "EndlessTug$Drinker" : Cond) ∈ ws0 := ws0_mem (List.mem_append_right _ (List.mem_append_left _ (List.mem_of_getElem? (i := 58) rfl))) rfl
theorem w_111 : (.instantiable "EndlessTug$Drinker" 1 : Cond) ∈ ws0 := ws0_mem (List.mem_append_right _ (List.mem_append_left _ (List.mem_of_getElem? (i := 59) rfl))) rfl
theorem nX2_36 : NWk "EndlessTug$Green" 36 1 := ⟨RX1, TX1, 1, rfl, rfl, List.forall_mem_cons.mpr ⟨w_110, List.forall_mem_cons.mpr ⟨w_111, List.forall_mem_cons.mpr ⟨w_57, fun _ h => absurd h List.not_mem_nil⟩⟩⟩, u_in1, tyX1_ok, fun k hk ad p => by
  match k, hk with
  | 0, _ => simp [fv, p0, va_up, va_rf, tyF, ftc, tyX1, defaultValue]
  | k + 1, hk => omega⟩
theorem w_118 : (.classLink "EndlessTug$Green" 39 "EndlessTug$Woman" : Cond) ∈ ws0 := ws0_mem (List.mem_append_right _ (List.mem_append_left _ (List.mem_of_getElem? (i := 66) rfl))) rfl
theorem w_119 : (.instantiable "EndlessTug$Woman" 1 : Cond) ∈ ws0 := ws0_mem (List.mem_append_right _ (List.mem_append_left _ (List.mem_of_getElem? (i := 67) rfl))) rfl
theorem nX2_39 : NWk "EndlessTug$Green" 39 10 := ⟨RX10, TX10, 1, rfl, rfl, List.forall_mem_cons.mpr ⟨w_118, List.forall_mem_cons.mpr ⟨w_119, List.forall_mem_cons.mpr ⟨w_58, fun _ h => absurd h List.not_mem_nil⟩⟩⟩, u_in10, tyX10_ok, fun k hk ad p => by
  match k, hk with
  | 0, _ => simp [fv, p0, va_up, va_rf, tyF, ftc, tyX10, defaultValue]
  | k + 1, hk => omega⟩
theorem w_126 : (.classLink "EndlessTug$Green" 42 "EndlessTug$Preacher" : Cond) ∈ ws0 := ws0_mem (List.mem_append_right _ (List.mem_append_left _ (List.mem_of_getElem? (i := 74) rfl))) rfl
theorem w_127 : (.instantiable "EndlessTug$Preacher" 1 : Cond) ∈ ws0 := ws0_mem (List.mem_append_right _ (List.mem_append_left _ (List.mem_of_getElem? (i := 75) rfl))) rfl
theorem nX2_42 : NWk "EndlessTug$Green" 42 5 := ⟨RX5, TX5, 1, rfl, rfl, List.forall_mem_cons.mpr ⟨w_126, List.forall_mem_cons.mpr ⟨w_127, List.forall_mem_cons.mpr ⟨w_59, fun _ h => absurd h List.not_mem_nil⟩⟩⟩, u_in5, tyX5_ok, fun k hk ad p => by
  match k, hk with
  | 0, _ => simp [fv, p0, va_up, va_rf, tyF, ftc, tyX5, defaultValue]
  | k + 1, hk => omega⟩
theorem w_134 : (.classLink "EndlessTug$Green" 45 "EndlessTug$Stranger" : Cond) ∈ ws0 := ws0_mem (List.mem_append_right _ (List.mem_append_left _ (List.mem_of_getElem? (i := 82) rfl))) rfl
theorem w_135 : (.instantiable "EndlessTug$Stranger" 1 : Cond) ∈ ws0 := ws0_mem (List.mem_append_right _ (List.mem_append_left _ (List.mem_of_getElem? (i := 83) rfl))) rfl
theorem nX2_45 : NWk "EndlessTug$Green" 45 8 := ⟨RX8, TX8, 1, rfl, rfl, List.forall_mem_cons.mpr ⟨w_134, List.forall_mem_cons.mpr ⟨w_135, List.forall_mem_cons.mpr ⟨w_60, fun _ h => absurd h List.not_mem_nil⟩⟩⟩, u_in8, tyX8_ok, fun k hk ad p => by
  match k, hk with
  | 0, _ => simp [fv, p0, va_up, va_rf, tyF, ftc, tyX8, defaultValue]
  | k + 1, hk => omega⟩
theorem w_142 : (.instantiable "EndlessTug$Person" 5 : Cond) ∈ ws0 := ws0_mem (List.mem_append_right _ (List.mem_append_left _ (List.mem_of_getElem? (i := 90) rfl))) rfl
theorem nX2_24 : NWk "EndlessTug$Green" 24 4 := ⟨RX4, TX4, 5, rfl, rfl, List.forall_mem_cons.mpr ⟨w_90, List.forall_mem_cons.mpr ⟨w_142, List.forall_mem_cons.mpr ⟨w_61, fun _ h => absurd h List.not_mem_nil⟩⟩⟩, u_in4, tyX4_ok, fun k hk ad p => by
  match k, hk with
  | 0, _ => simp [fv, p0, va_up, va_rf, tyF, ftc, tyX4, defaultValue]
  | 1, _ => simp [fv, p0, va_up, va_rf, tyF, ftc, tyX4, defaultValue]
  | 2, _ => simp [fv, p0, va_up, va_rf, tyF, ftc, tyX4, defaultValue]
  | 3, _ => simp [fv, p0, va_up, va_rf, tyF, ftc, tyX4, defaultValue]
  | 4, _ => simp [fv, p0, va_up, va_rf, tyF, ftc, tyX4, defaultValue]
  | k + 5, hk => omega⟩
theorem w_82 : (.classLink "EndlessTug" 7 "EndlessTug$Green" : Cond) ∈ ws0 := ws0_mem (List.mem_append_right _ (List.mem_append_left _ (List.mem_of_getElem? (i := 30) rfl))) rfl
theorem w_83 : (.instantiable "EndlessTug$Green" 7 : Cond) ∈ ws0 := ws0_mem (List.mem_append_right _ (List.mem_append_left _ (List.mem_of_getElem? (i := 31) rfl))) rfl
theorem nX11_7 : NWk "EndlessTug" 7 2 := ⟨RX2, TX2, 7, rfl, rfl, List.forall_mem_cons.mpr ⟨w_82, List.forall_mem_cons.mpr ⟨w_83, List.forall_mem_cons.mpr ⟨w_54, fun _ h => absurd h List.not_mem_nil⟩⟩⟩, u_in2, tyX2_ok, fun k hk ad p => by
  match k, hk with
  | 0, _ => simp [fv, p0, va_up, va_rf, tyF, ftc, tyX2, defaultValue]
  | 1, _ => simp [fv, p0, va_up, va_rf, tyF, ftc, tyX2, defaultValue]
  | 2, _ => simp [fv, p0, va_up, va_rf, tyF, ftc, tyX2, defaultValue]
  | 3, _ => simp [fv, p0, va_up, va_rf, tyF, ftc, tyX2, defaultValue]
  | 4, _ => simp [fv, p0, va_up, va_rf, tyF, ftc, tyX2, defaultValue]
  | 5, _ => simp [fv, p0, va_up, va_rf, tyF, ftc, tyX2, defaultValue]
  | 6, _ => simp [fv, p0, va_up, va_rf, tyF, ftc, tyX2, defaultValue]
  | k + 7, hk => omega⟩
theorem w_216 : (.classLink "EndlessTug" 22 "EndlessTug$Best" : Cond) ∈ ws0 := ws0_mem (List.mem_append_right _ (List.mem_append_left _ (List.mem_of_getElem? (i := 164) rfl))) rfl
theorem w_217 : (.instantiable "EndlessTug$Best" 3 : Cond) ∈ ws0 := ws0_mem (List.mem_append_right _ (List.mem_append_left _ (List.mem_of_getElem? (i := 165) rfl))) rfl
theorem nX11_22 : NWk "EndlessTug" 22 0 := ⟨RX0, TX0, 3, rfl, rfl, List.forall_mem_cons.mpr ⟨w_216, List.forall_mem_cons.mpr ⟨w_217, List.forall_mem_cons.mpr ⟨w_62, fun _ h => absurd h List.not_mem_nil⟩⟩⟩, u_in0, tyX0_ok, fun k hk ad p => by
  match k, hk with
  | 0, _ => simp [fv, p0, va_up, va_rf, tyF, ftc, tyX0, defaultValue]
  | 1, _ => simp [fv, p0, va_up, va_rf, tyF, ftc, tyX0, defaultValue]
  | 2, _ => simp [fv, p0, va_up, va_rf, tyF, ftc, tyX0, defaultValue]
  | k + 3, hk => omega⟩
theorem w_234 : (.classLink "EndlessTug" 29 "EndlessTug$Tape" : Cond) ∈ ws0 := ws0_mem (List.mem_append_right _ (List.mem_append_left _ (List.mem_of_getElem? (i := 182) rfl))) rfl
theorem w_235 : (.instantiable "EndlessTug$Tape" 6 : Cond) ∈ ws0 := ws0_mem (List.mem_append_right _ (List.mem_append_left _ (List.mem_of_getElem? (i := 183) rfl))) rfl
theorem nX11_29 : NWk "EndlessTug" 29 9 := ⟨RX9, TX9, 6, rfl, rfl, List.forall_mem_cons.mpr ⟨w_234, List.forall_mem_cons.mpr ⟨w_235, List.forall_mem_cons.mpr ⟨w_63, fun _ h => absurd h List.not_mem_nil⟩⟩⟩, u_in9, tyX9_ok, fun k hk ad p => by
  match k, hk with
  | 0, _ => simp [fv, p0, va_up, va_rf, tyF, ftc, tyX9, defaultValue]
  | 1, _ => simp [fv, p0, va_up, va_rf, tyF, ftc, tyX9, defaultValue]
  | 2, _ => simp [fv, p0, va_up, va_rf, tyF, ftc, tyX9, defaultValue]
  | 3, _ => simp [fv, p0, va_up, va_rf, tyF, ftc, tyX9, defaultValue]
  | 4, _ => simp [fv, p0, va_up, va_rf, tyF, ftc, tyX9, defaultValue]
  | 5, _ => simp [fv, p0, va_up, va_rf, tyF, ftc, tyX9, defaultValue]
  | k + 6, hk => omega⟩
theorem w_261 : (.classLink "EndlessTug" 36 "EndlessTug$Sheet" : Cond) ∈ ws0 := ws0_mem (List.mem_append_right _ (List.mem_append_left _ (List.mem_of_getElem? (i := 209) rfl))) rfl
theorem w_263 : (.instantiable "EndlessTug$Sheet" 3 : Cond) ∈ ws0 := ws0_mem (List.mem_append_right _ (List.mem_append_left _ (List.mem_of_getElem? (i := 211) rfl))) rfl
theorem nX11_36 : NWk "EndlessTug" 36 6 := ⟨RX6, TX6, 3, rfl, rfl, List.forall_mem_cons.mpr ⟨w_261, List.forall_mem_cons.mpr ⟨w_263, List.forall_mem_cons.mpr ⟨w_64, fun _ h => absurd h List.not_mem_nil⟩⟩⟩, u_in6, tyX6_ok, fun k hk ad p => by
  match k, hk with
  | 0, _ => simp [fv, p0, va_up, va_rf, tyF, ftc, tyX6, defaultValue]
  | 1, _ => simp [fv, p0, va_up, va_rf, tyF, ftc, tyX6, defaultValue]
  | 2, _ => simp [fv, p0, va_up, va_rf, tyF, ftc, tyX6, defaultValue]
  | k + 3, hk => omega⟩
theorem w_74 : (.classLink "EndlessTugLaw" 7 "EndlessTug" : Cond) ∈ ws0 := ws0_mem (List.mem_append_right _ (List.mem_append_left _ (List.mem_of_getElem? (i := 22) rfl))) rfl
theorem w_75 : (.instantiable "EndlessTug" 8 : Cond) ∈ ws0 := ws0_mem (List.mem_append_right _ (List.mem_append_left _ (List.mem_of_getElem? (i := 23) rfl))) rfl
theorem nL_7 : NWk "EndlessTugLaw" 7 11 := ⟨RX11, TX11, 8, rfl, rfl, List.forall_mem_cons.mpr ⟨w_74, List.forall_mem_cons.mpr ⟨w_75, List.forall_mem_cons.mpr ⟨w_53, fun _ h => absurd h List.not_mem_nil⟩⟩⟩, u_in11, tyX11_ok, fun k hk ad p => by
  match k, hk with
  | 0, _ => simp [fv, p0, va_up, va_rf, tyF, ftc, tyX11, defaultValue]
  | 1, _ => simp [fv, p0, va_up, va_rf, tyF, ftc, tyX11, defaultValue]
  | 2, _ => simp [fv, p0, va_up, va_rf, tyF, ftc, tyX11, defaultValue]
  | 3, _ => simp [fv, p0, va_up, va_rf, tyF, ftc, tyX11, defaultValue]
  | 4, _ => simp [fv, p0, va_up, va_rf, tyF, ftc, tyX11, defaultValue]
  | 5, _ => simp [fv, p0, va_up, va_rf, tyF, ftc, tyX11, defaultValue]
  | 6, _ => simp [fv, p0, va_up, va_rf, tyF, ftc, tyX11, defaultValue]
  | 7, _ => simp [fv, p0, va_up, va_rf, tyF, ftc, tyX11, defaultValue]
  | k + 8, hk => omega⟩
theorem w_860 : (.classLink "EndlessTugLaw" 10 "EndlessTugModel" : Cond) ∈ ws0 := ws0_mem (List.mem_append_right _ (List.mem_append_right _ (List.mem_append_right _ (List.mem_append_right _ (List.mem_append_left _ (List.mem_of_getElem? (i := 88) rfl)))))) rfl
theorem w_861 : (.instantiable "EndlessTugModel" 19 : Cond) ∈ ws0 := ws0_mem (List.mem_append_right _ (List.mem_append_right _ (List.mem_append_right _ (List.mem_append_right _ (List.mem_append_left _ (List.mem_of_getElem? (i := 89) rfl)))))) rfl
theorem nL_10 : NWk "EndlessTugLaw" 10 12 := ⟨RX12, TX12, 19, rfl, rfl, List.forall_mem_cons.mpr ⟨w_860, List.forall_mem_cons.mpr ⟨w_861, List.forall_mem_cons.mpr ⟨w_65, fun _ h => absurd h List.not_mem_nil⟩⟩⟩, u_in12, tyX12_ok, fun k hk ad p => by
  match k, hk with
  | 0, _ => simp [fv, p0, va_up, va_rf, tyF, ftc, tyX12, defaultValue]
  | 1, _ => simp [fv, p0, va_up, va_rf, tyF, ftc, tyX12, defaultValue]
  | 2, _ => simp [fv, p0, va_up, va_rf, tyF, ftc, tyX12, defaultValue]
  | 3, _ => simp [fv, p0, va_up, va_rf, tyF, ftc, tyX12, defaultValue]
  | 4, _ => simp [fv, p0, va_up, va_rf, tyF, ftc, tyX12, defaultValue]
  | 5, _ => simp [fv, p0, va_up, va_rf, tyF, ftc, tyX12, defaultValue]
  | 6, _ => simp [fv, p0, va_up, va_rf, tyF, ftc, tyX12, defaultValue]
  | 7, _ => simp [fv, p0, va_up, va_rf, tyF, ftc, tyX12, defaultValue]
  | 8, _ => simp [fv, p0, va_up, va_rf, tyF, ftc, tyX12, defaultValue]
  | 9, _ => simp [fv, p0, va_up, va_rf, tyF, ftc, tyX12, defaultValue]
  | 10, _ => simp [fv, p0, va_up, va_rf, tyF, ftc, tyX12, defaultValue]
  | 11, _ => simp [fv, p0, va_up, va_rf, tyF, ftc, tyX12, defaultValue]
  | 12, _ => simp [fv, p0, va_up, va_rf, tyF, ftc, tyX12, defaultValue]
  | 13, _ => simp [fv, p0, va_up, va_rf, tyF, ftc, tyX12, defaultValue]
  | 14, _ => simp [fv, p0, va_up, va_rf, tyF, ftc, tyX12, defaultValue]
  | 15, _ => simp [fv, p0, va_up, va_rf, tyF, ftc, tyX12, defaultValue]
  | 16, _ => simp [fv, p0, va_up, va_rf, tyF, ftc, tyX12, defaultValue]
  | 17, _ => simp [fv, p0, va_up, va_rf, tyF, ftc, tyX12, defaultValue]
  | 18, _ => simp [fv, p0, va_up, va_rf, tyF, ftc, tyX12, defaultValue]
  | k + 19, hk => omega⟩
theorem w_260 : (.arrayClass .int : Cond) ∈ ws0 := ws0_mem (List.mem_append_right _ (List.mem_append_left _ (List.mem_of_getElem? (i := 208) rfl))) rfl
theorem w_283 : (.arrayClass .long : Cond) ∈ ws0 := ws0_mem (List.mem_append_right _ (List.mem_append_left _ (List.mem_of_getElem? (i := 231) rfl))) rfl
theorem w_924 : (.arrayClass .char : Cond) ∈ ws0 := ws0_mem (List.mem_append_right _ (List.mem_append_right _ (List.mem_append_right _ (List.mem_append_right _ (List.mem_append_left _ (List.mem_of_getElem? (i := 152) rfl)))))) rfl
theorem w_316 : (.constant "EndlessTug" 51 (-1000000001) : Cond) ∈ ws0 := ws0_mem (List.mem_append_right _ (List.mem_append_right _ (List.mem_append_left _ (List.mem_of_getElem? (i := 24) rfl)))) rfl
theorem w_404 : (.constant "EndlessTug" 99 (-1000000002) : Cond) ∈ ws0 := ws0_mem (List.mem_append_right _ (List.mem_append_right _ (List.mem_append_left _ (List.mem_of_getElem? (i := 112) rfl)))) rfl
theorem w_502 : (.constant "EndlessTug" 156 (-1000000003) : Cond) ∈ ws0 := ws0_mem (List.mem_append_right _ (List.mem_append_right _ (List.mem_append_left _ (List.mem_of_getElem? (i := 210) rfl)))) rfl
theorem w_512 : (.constant "EndlessTug" 161 (-1000000005) : Cond) ∈ ws0 := ws0_mem (List.mem_append_right _ (List.mem_append_right _ (List.mem_append_left _ (List.mem_of_getElem? (i := 220) rfl)))) rfl
theorem w_522 : (.constant "EndlessTug" 165 (99999) : Cond) ∈ ws0 := ws0_mem (List.mem_append_right _ (List.mem_append_right _ (List.mem_append_left _ (List.mem_of_getElem? (i := 230) rfl)))) rfl
theorem w_577 : (.constant "EndlessTug" 180 (-1000000004) : Cond) ∈ ws0 := ws0_mem (List.mem_append_right _ (List.mem_append_right _ (List.mem_append_right _ (List.mem_append_left _ (List.mem_of_getElem? (i := 45) rfl))))) rfl
theorem w_633 : (.constant "java/lang/Integer" 265 (1431655765) : Cond) ∈ ws0 := ws0_mem (List.mem_append_right _ (List.mem_append_right _ (List.mem_append_right _ (List.mem_append_left _ (List.mem_of_getElem? (i := 101) rfl))))) rfl
theorem w_634 : (.constant "java/lang/Integer" 266 (858993459) : Cond) ∈ ws0 := ws0_mem (List.mem_append_right _ (List.mem_append_right _ (List.mem_append_right _ (List.mem_append_left _ (List.mem_of_getElem? (i := 102) rfl))))) rfl
theorem w_635 : (.constant "java/lang/Integer" 267 (252645135) : Cond) ∈ ws0 := ws0_mem (List.mem_append_right _ (List.mem_append_right _ (List.mem_append_right _ (List.mem_append_left _ (List.mem_of_getElem? (i := 103) rfl))))) rfl
theorem w_783 : (.constant "EndlessTug" 219 (-1000000007) : Cond) ∈ ws0 := ws0_mem (List.mem_append_right _ (List.mem_append_right _ (List.mem_append_right _ (List.mem_append_right _ (List.mem_append_left _ (List.mem_of_getElem? (i := 11) rfl)))))) rfl
theorem w_799 : (.constant "EndlessTug" 227 (-1000000006) : Cond) ∈ ws0 := ws0_mem (List.mem_append_right _ (List.mem_append_right _ (List.mem_append_right _ (List.mem_append_right _ (List.mem_append_left _ (List.mem_of_getElem? (i := 27) rfl)))))) rfl
theorem w_819 : (.constantLong "EndlessTug" 248 (20) : Cond) ∈ ws0 := ws0_mem (List.mem_append_right _ (List.mem_append_right _ (List.mem_append_right _ (List.mem_append_right _ (List.mem_append_left _ (List.mem_of_getElem? (i := 47) rfl)))))) rfl
theorem w_940 : (.constant "EndlessTugModel" 51 (-1000000001) : Cond) ∈ ws0 := ws0_mem (List.mem_append_right _ (List.mem_append_right _ (List.mem_append_right _ (List.mem_append_right _ (List.mem_append_left _ (List.mem_of_getElem? (i := 168) rfl)))))) rfl
theorem w_1047 : (.constant "EndlessTugModel" 144 (99999) : Cond) ∈ ws0 := ws0_mem (List.mem_append_right _ (List.mem_append_right _ (List.mem_append_right _ (List.mem_append_right _ (List.mem_append_right _ (List.mem_append_left _ (List.mem_of_getElem? (i := 35) rfl))))))) rfl
theorem w_1153 : (.constantLong "EndlessTugModel" 174 (9999999999999) : Cond) ∈ ws0 := ws0_mem (List.mem_append_right _ (List.mem_append_right _ (List.mem_append_right _ (List.mem_append_right _ (List.mem_append_right _ (List.mem_append_left _ (List.mem_of_getElem? (i := 141) rfl))))))) rfl
theorem w_1154 : (.constantLong "EndlessTugModel" 176 (27) : Cond) ∈ ws0 := ws0_mem (List.mem_append_right _ (List.mem_append_right _ (List.mem_append_right _ (List.mem_append_right _ (List.mem_append_right _ (List.mem_append_left _ (List.mem_of_getElem? (i := 142) rfl))))))) rfl
theorem w_1155 : (.constantLong "EndlessTugModel" 178 (96) : Cond) ∈ ws0 := ws0_mem (List.mem_append_right _ (List.mem_append_right _ (List.mem_append_right _ (List.mem_append_right _ (List.mem_append_right _ (List.mem_append_left _ (List.mem_of_getElem? (i := 143) rfl))))))) rfl
theorem w_1159 : (.constantLong "EndlessTugModel" 183 (9999) : Cond) ∈ ws0 := ws0_mem (List.mem_append_right _ (List.mem_append_right _ (List.mem_append_right _ (List.mem_append_right _ (List.mem_append_right _ (List.mem_append_left _ (List.mem_of_getElem? (i := 147) rfl))))))) rfl
theorem w_1160 : (.constantLong "EndlessTugModel" 185 (10) : Cond) ∈ ws0 := ws0_mem (List.mem_append_right _ (List.mem_append_right _ (List.mem_append_right _ (List.mem_append_right _ (List.mem_append_right _ (List.mem_append_left _ (List.mem_of_getElem? (i := 148) rfl))))))) rfl
theorem w_1161 : (.constantLong "EndlessTugModel" 187 (48) : Cond) ∈ ws0 := ws0_mem (List.mem_append_right _ (List.mem_append_right _ (List.mem_append_right _ (List.mem_append_right _ (List.mem_append_right _ (List.mem_append_left _ (List.mem_of_getElem? (i := 149) rfl))))))) rfl
theorem w_1217 : (.constantLong "EndlessTugModel" 226 (20) : Cond) ∈ ws0 := ws0_mem (List.mem_append_right _ (List.mem_append_right _ (List.mem_append_right _ (List.mem_append_right _ (List.mem_append_right _ (List.mem_append_left _ (List.mem_of_getElem? (i := 205) rfl))))))) rfl
theorem w_1250 : (.constantLong "EndlessTugLaw" 125 (4294967295) : Cond) ∈ ws0 := ws0_mem (List.mem_append_right _ (List.mem_append_right _ (List.mem_append_right _ (List.mem_append_right _ (List.mem_append_right _ (List.mem_append_left _ (List.mem_of_getElem? (i := 238) rfl))))))) rfl
end
