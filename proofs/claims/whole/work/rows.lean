section
-- ===== PART A: goes FIRST, ahead of the names: the tables' words, and 'selects' of the private methods out of them =====
/-- a private method of a class that the tables say can be made, by its rows of tables_1 -/
def lw_okq (q : MethodName × Nat) : Prop := (q.1.cls ≠ "java/lang/invoke/MethodHandle" ∧ q.1.cls ≠ "java/lang/invoke/VarHandle") ∧ Cond.instantiable q.1.cls q.2 ∈ tables_1 ∧ Cond.privateMethod q.1 ∈ tables_1 ∧ Cond.instanceMethod q.1 ∈ tables_1
theorem lw_p0 : lw_okq (⟨"ShameYards$Page", "fits", "(II)Z"⟩, 2) := ⟨⟨by decide +kernel, by decide +kernel⟩, List.mem_of_getElem? (i := 31) (by decide +kernel), List.mem_of_getElem? (i := 321) (by decide +kernel), List.mem_of_getElem? (i := 322) (by decide +kernel)⟩
theorem lw_p1 : lw_okq (⟨"ShameYards$Page", "isDigit", "(III)Z"⟩, 2) := ⟨⟨by decide +kernel, by decide +kernel⟩, List.mem_of_getElem? (i := 31) (by decide +kernel), List.mem_of_getElem? (i := 325) (by decide +kernel), List.mem_of_getElem? (i := 326) (by decide +kernel)⟩
theorem lw_p2 : lw_okq (⟨"ShameYards$Page", "fitsPassage", "(I)Z"⟩, 2) := ⟨⟨by decide +kernel, by decide +kernel⟩, List.mem_of_getElem? (i := 31) (by decide +kernel), List.mem_of_getElem? (i := 333) (by decide +kernel), List.mem_of_getElem? (i := 334) (by decide +kernel)⟩
theorem lw_p3 : lw_okq (⟨"ShameYards$Page", "fitsPerson", "(II)Z"⟩, 2) := ⟨⟨by decide +kernel, by decide +kernel⟩, List.mem_of_getElem? (i := 31) (by decide +kernel), List.mem_of_getElem? (i := 341) (by decide +kernel), List.mem_of_getElem? (i := 342) (by decide +kernel)⟩
theorem lw_p4 : lw_okq (⟨"ShameYards", "tellPerson", "(II)I"⟩, 9) := ⟨⟨by decide +kernel, by decide +kernel⟩, List.mem_of_getElem? (i := 23) (by decide +kernel), List.mem_of_getElem? (i := 462) (by decide +kernel), List.mem_of_getElem? (i := 463) (by decide +kernel)⟩
theorem lw_p5 : lw_okq (⟨"ShameYards", "tellPassage", "(II)I"⟩, 9) := ⟨⟨by decide +kernel, by decide +kernel⟩, List.mem_of_getElem? (i := 23) (by decide +kernel), List.mem_of_getElem? (i := 528) (by decide +kernel), List.mem_of_getElem? (i := 529) (by decide +kernel)⟩
theorem lw_p6 : lw_okq (⟨"ShameYards$Ways", "shorten", "(III)V"⟩, 6) := ⟨⟨by decide +kernel, by decide +kernel⟩, List.mem_of_getElem? (i := 176) (by decide +kernel), List.mem_of_getElem? (i := 603) (by decide +kernel), List.mem_of_getElem? (i := 604) (by decide +kernel)⟩
theorem lw_p7 : lw_okq (⟨"ShameYards$Ways", "nextLeg", "(LShameYards$House;I)I"⟩, 6) := ⟨⟨by decide +kernel, by decide +kernel⟩, List.mem_of_getElem? (i := 176) (by decide +kernel), List.mem_of_getElem? (i := 616) (by decide +kernel), List.mem_of_getElem? (i := 617) (by decide +kernel)⟩
theorem lw_p8 : lw_okq (⟨"ShameYards$Pairing", "isBetter", "(II)Z"⟩, 6) := ⟨⟨by decide +kernel, by decide +kernel⟩, List.mem_of_getElem? (i := 204) (by decide +kernel), List.mem_of_getElem? (i := 664) (by decide +kernel), List.mem_of_getElem? (i := 665) (by decide +kernel)⟩
theorem lw_p9 : lw_okq (⟨"ShameYards$Pairing", "keep", "(II)V"⟩, 6) := ⟨⟨by decide +kernel, by decide +kernel⟩, List.mem_of_getElem? (i := 204) (by decide +kernel), List.mem_of_getElem? (i := 668) (by decide +kernel), List.mem_of_getElem? (i := 669) (by decide +kernel)⟩
theorem lw_p10 : lw_okq (⟨"ShameYards$Wander", "spread", "(LShameYards$House;II[J)V"⟩, 8) := ⟨⟨by decide +kernel, by decide +kernel⟩, List.mem_of_getElem? (i := 231) (by decide +kernel), List.mem_of_getElem? (i := 689) (by decide +kernel), List.mem_of_getElem? (i := 690) (by decide +kernel)⟩
theorem lw_p11 : lw_okq (⟨"ShameYards$Wander", "shareOut", "(LShameYards$House;IJ)V"⟩, 8) := ⟨⟨by decide +kernel, by decide +kernel⟩, List.mem_of_getElem? (i := 231) (by decide +kernel), List.mem_of_getElem? (i := 696) (by decide +kernel), List.mem_of_getElem? (i := 697) (by decide +kernel)⟩
theorem lw_p12 : lw_okq (⟨"ShameYards$Wander", "dreamOfOne", "()V"⟩, 8) := ⟨⟨by decide +kernel, by decide +kernel⟩, List.mem_of_getElem? (i := 231) (by decide +kernel), List.mem_of_getElem? (i := 737) (by decide +kernel), List.mem_of_getElem? (i := 738) (by decide +kernel)⟩
theorem lw_p13 : lw_okq (⟨"ShameYards$Wander", "draw", "(I)I"⟩, 8) := ⟨⟨by decide +kernel, by decide +kernel⟩, List.mem_of_getElem? (i := 231) (by decide +kernel), List.mem_of_getElem? (i := 741) (by decide +kernel), List.mem_of_getElem? (i := 742) (by decide +kernel)⟩
theorem lw_p14 : lw_okq (⟨"ShameYards", "mixWays", "(JI)J"⟩, 9) := ⟨⟨by decide +kernel, by decide +kernel⟩, List.mem_of_getElem? (i := 23) (by decide +kernel), List.mem_of_getElem? (i := 789) (by decide +kernel), List.mem_of_getElem? (i := 790) (by decide +kernel)⟩
theorem lw_p15 : lw_okq (⟨"ShameYards", "mixPassage", "(JI)J"⟩, 9) := ⟨⟨by decide +kernel, by decide +kernel⟩, List.mem_of_getElem? (i := 23) (by decide +kernel), List.mem_of_getElem? (i := 793) (by decide +kernel), List.mem_of_getElem? (i := 794) (by decide +kernel)⟩
def lw_privs_1 : List (MethodName × Nat) := [(⟨"ShameYards$Page", "fits", "(II)Z"⟩, 2), (⟨"ShameYards$Page", "isDigit", "(III)Z"⟩, 2), (⟨"ShameYards$Page", "fitsPassage", "(I)Z"⟩, 2), (⟨"ShameYards$Page", "fitsPerson", "(II)Z"⟩, 2), (⟨"ShameYards", "tellPerson", "(II)I"⟩, 9), (⟨"ShameYards", "tellPassage", "(II)I"⟩, 9), (⟨"ShameYards$Ways", "shorten", "(III)V"⟩, 6), (⟨"ShameYards$Ways", "nextLeg", "(LShameYards$House;I)I"⟩, 6), (⟨"ShameYards$Pairing", "isBetter", "(II)Z"⟩, 6), (⟨"ShameYards$Pairing", "keep", "(II)V"⟩, 6), (⟨"ShameYards$Wander", "spread", "(LShameYards$House;II[J)V"⟩, 8), (⟨"ShameYards$Wander", "shareOut", "(LShameYards$House;IJ)V"⟩, 8), (⟨"ShameYards$Wander", "dreamOfOne", "()V"⟩, 8), (⟨"ShameYards$Wander", "draw", "(I)I"⟩, 8), (⟨"ShameYards", "mixWays", "(JI)J"⟩, 9), (⟨"ShameYards", "mixPassage", "(JI)J"⟩, 9)]
theorem lw_r1 : ∀ q ∈ lw_privs_1, lw_okq q := List.forall_mem_cons.mpr ⟨lw_p0, List.forall_mem_cons.mpr ⟨lw_p1, List.forall_mem_cons.mpr ⟨lw_p2, List.forall_mem_cons.mpr ⟨lw_p3, List.forall_mem_cons.mpr ⟨lw_p4, List.forall_mem_cons.mpr ⟨lw_p5, List.forall_mem_cons.mpr ⟨lw_p6, List.forall_mem_cons.mpr ⟨lw_p7, List.forall_mem_cons.mpr ⟨lw_p8, List.forall_mem_cons.mpr ⟨lw_p9, List.forall_mem_cons.mpr ⟨lw_p10, List.forall_mem_cons.mpr ⟨lw_p11, List.forall_mem_cons.mpr ⟨lw_p12, List.forall_mem_cons.mpr ⟨lw_p13, List.forall_mem_cons.mpr ⟨lw_p14, List.forall_mem_cons.mpr ⟨lw_p15, fun _ h => absurd h List.not_mem_nil⟩⟩⟩⟩⟩⟩⟩⟩⟩⟩⟩⟩⟩⟩⟩⟩
theorem lw_p16 : lw_okq (⟨"ShameYardsModel", "read", "()I"⟩, 49) := ⟨⟨by decide +kernel, by decide +kernel⟩, List.mem_of_getElem? (i := 799) (by decide +kernel), List.mem_of_getElem? (i := 968) (by decide +kernel), List.mem_of_getElem? (i := 969) (by decide +kernel)⟩
theorem lw_p17 : lw_okq (⟨"ShameYardsModel", "isFigure", "(III)Z"⟩, 49) := ⟨⟨by decide +kernel, by decide +kernel⟩, List.mem_of_getElem? (i := 799) (by decide +kernel), List.mem_of_getElem? (i := 972) (by decide +kernel), List.mem_of_getElem? (i := 973) (by decide +kernel)⟩
theorem lw_p18 : lw_okq (⟨"ShameYardsModel", "at", "(I)I"⟩, 49) := ⟨⟨by decide +kernel, by decide +kernel⟩, List.mem_of_getElem? (i := 799) (by decide +kernel), List.mem_of_getElem? (i := 976) (by decide +kernel), List.mem_of_getElem? (i := 977) (by decide +kernel)⟩
theorem lw_p19 : lw_okq (⟨"ShameYardsModel", "readPassage", "(II)I"⟩, 49) := ⟨⟨by decide +kernel, by decide +kernel⟩, List.mem_of_getElem? (i := 799) (by decide +kernel), List.mem_of_getElem? (i := 980) (by decide +kernel), List.mem_of_getElem? (i := 981) (by decide +kernel)⟩
theorem lw_p20 : lw_okq (⟨"ShameYardsModel", "readPeople", "(I)I"⟩, 49) := ⟨⟨by decide +kernel, by decide +kernel⟩, List.mem_of_getElem? (i := 799) (by decide +kernel), List.mem_of_getElem? (i := 984) (by decide +kernel), List.mem_of_getElem? (i := 985) (by decide +kernel)⟩
theorem lw_p21 : lw_okq (⟨"ShameYardsModel", "readPerson", "(I)I"⟩, 49) := ⟨⟨by decide +kernel, by decide +kernel⟩, List.mem_of_getElem? (i := 799) (by decide +kernel), List.mem_of_getElem? (i := 988) (by decide +kernel), List.mem_of_getElem? (i := 989) (by decide +kernel)⟩
theorem lw_p22 : lw_okq (⟨"ShameYardsModel", "isPerson", "(I)Z"⟩, 49) := ⟨⟨by decide +kernel, by decide +kernel⟩, List.mem_of_getElem? (i := 799) (by decide +kernel), List.mem_of_getElem? (i := 1003) (by decide +kernel), List.mem_of_getElem? (i := 1004) (by decide +kernel)⟩
theorem lw_p23 : lw_okq (⟨"ShameYardsModel", "personNow", "(II)I"⟩, 49) := ⟨⟨by decide +kernel, by decide +kernel⟩, List.mem_of_getElem? (i := 799) (by decide +kernel), List.mem_of_getElem? (i := 1007) (by decide +kernel), List.mem_of_getElem? (i := 1008) (by decide +kernel)⟩
theorem lw_p24 : lw_okq (⟨"ShameYardsModel", "liesBits", "(I)I"⟩, 49) := ⟨⟨by decide +kernel, by decide +kernel⟩, List.mem_of_getElem? (i := 799) (by decide +kernel), List.mem_of_getElem? (i := 1011) (by decide +kernel), List.mem_of_getElem? (i := 1012) (by decide +kernel)⟩
theorem lw_p25 : lw_okq (⟨"ShameYardsModel", "stepsWith", "(IIII)I"⟩, 49) := ⟨⟨by decide +kernel, by decide +kernel⟩, List.mem_of_getElem? (i := 799) (by decide +kernel), List.mem_of_getElem? (i := 1015) (by decide +kernel), List.mem_of_getElem? (i := 1016) (by decide +kernel)⟩
theorem lw_p26 : lw_okq (⟨"ShameYardsModel", "stepsOf", "(III)I"⟩, 49) := ⟨⟨by decide +kernel, by decide +kernel⟩, List.mem_of_getElem? (i := 799) (by decide +kernel), List.mem_of_getElem? (i := 1019) (by decide +kernel), List.mem_of_getElem? (i := 1020) (by decide +kernel)⟩
theorem lw_p27 : lw_okq (⟨"ShameYardsModel", "alone", "(II)I"⟩, 49) := ⟨⟨by decide +kernel, by decide +kernel⟩, List.mem_of_getElem? (i := 799) (by decide +kernel), List.mem_of_getElem? (i := 1023) (by decide +kernel), List.mem_of_getElem? (i := 1024) (by decide +kernel)⟩
theorem lw_p28 : lw_okq (⟨"ShameYardsModel", "askOf", "(I)I"⟩, 49) := ⟨⟨by decide +kernel, by decide +kernel⟩, List.mem_of_getElem? (i := 799) (by decide +kernel), List.mem_of_getElem? (i := 1027) (by decide +kernel), List.mem_of_getElem? (i := 1028) (by decide +kernel)⟩
theorem lw_p29 : lw_okq (⟨"ShameYardsModel", "worstBy", "(IIII)I"⟩, 49) := ⟨⟨by decide +kernel, by decide +kernel⟩, List.mem_of_getElem? (i := 799) (by decide +kernel), List.mem_of_getElem? (i := 1032) (by decide +kernel), List.mem_of_getElem? (i := 1033) (by decide +kernel)⟩
theorem lw_p30 : lw_okq (⟨"ShameYardsModel", "isPassage", "(I)Z"⟩, 49) := ⟨⟨by decide +kernel, by decide +kernel⟩, List.mem_of_getElem? (i := 799) (by decide +kernel), List.mem_of_getElem? (i := 1047) (by decide +kernel), List.mem_of_getElem? (i := 1048) (by decide +kernel)⟩
theorem lw_p31 : lw_okq (⟨"ShameYardsModel", "passageNow", "(II)I"⟩, 49) := ⟨⟨by decide +kernel, by decide +kernel⟩, List.mem_of_getElem? (i := 799) (by decide +kernel), List.mem_of_getElem? (i := 1051) (by decide +kernel), List.mem_of_getElem? (i := 1052) (by decide +kernel)⟩
def lw_privs_2 : List (MethodName × Nat) := [(⟨"ShameYardsModel", "read", "()I"⟩, 49), (⟨"ShameYardsModel", "isFigure", "(III)Z"⟩, 49), (⟨"ShameYardsModel", "at", "(I)I"⟩, 49), (⟨"ShameYardsModel", "readPassage", "(II)I"⟩, 49), (⟨"ShameYardsModel", "readPeople", "(I)I"⟩, 49), (⟨"ShameYardsModel", "readPerson", "(I)I"⟩, 49), (⟨"ShameYardsModel", "isPerson", "(I)Z"⟩, 49), (⟨"ShameYardsModel", "personNow", "(II)I"⟩, 49), (⟨"ShameYardsModel", "liesBits", "(I)I"⟩, 49), (⟨"ShameYardsModel", "stepsWith", "(IIII)I"⟩, 49), (⟨"ShameYardsModel", "stepsOf", "(III)I"⟩, 49), (⟨"ShameYardsModel", "alone", "(II)I"⟩, 49), (⟨"ShameYardsModel", "askOf", "(I)I"⟩, 49), (⟨"ShameYardsModel", "worstBy", "(IIII)I"⟩, 49), (⟨"ShameYardsModel", "isPassage", "(I)Z"⟩, 49), (⟨"ShameYardsModel", "passageNow", "(II)I"⟩, 49)]
theorem lw_r2 : ∀ q ∈ lw_privs_2, lw_okq q := List.forall_mem_cons.mpr ⟨lw_p16, List.forall_mem_cons.mpr ⟨lw_p17, List.forall_mem_cons.mpr ⟨lw_p18, List.forall_mem_cons.mpr ⟨lw_p19, List.forall_mem_cons.mpr ⟨lw_p20, List.forall_mem_cons.mpr ⟨lw_p21, List.forall_mem_cons.mpr ⟨lw_p22, List.forall_mem_cons.mpr ⟨lw_p23, List.forall_mem_cons.mpr ⟨lw_p24, List.forall_mem_cons.mpr ⟨lw_p25, List.forall_mem_cons.mpr ⟨lw_p26, List.forall_mem_cons.mpr ⟨lw_p27, List.forall_mem_cons.mpr ⟨lw_p28, List.forall_mem_cons.mpr ⟨lw_p29, List.forall_mem_cons.mpr ⟨lw_p30, List.forall_mem_cons.mpr ⟨lw_p31, fun _ h => absurd h List.not_mem_nil⟩⟩⟩⟩⟩⟩⟩⟩⟩⟩⟩⟩⟩⟩⟩⟩
theorem lw_p32 : lw_okq (⟨"ShameYardsModel", "isWith", "(II)Z"⟩, 49) := ⟨⟨by decide +kernel, by decide +kernel⟩, List.mem_of_getElem? (i := 799) (by decide +kernel), List.mem_of_getElem? (i := 1059) (by decide +kernel), List.mem_of_getElem? (i := 1060) (by decide +kernel)⟩
theorem lw_p33 : lw_okq (⟨"ShameYardsModel", "endsAt", "(II)Z"⟩, 49) := ⟨⟨by decide +kernel, by decide +kernel⟩, List.mem_of_getElem? (i := 799) (by decide +kernel), List.mem_of_getElem? (i := 1067) (by decide +kernel), List.mem_of_getElem? (i := 1068) (by decide +kernel)⟩
theorem lw_p34 : lw_okq (⟨"ShameYardsModel", "isTired", "(I)Z"⟩, 49) := ⟨⟨by decide +kernel, by decide +kernel⟩, List.mem_of_getElem? (i := 799) (by decide +kernel), List.mem_of_getElem? (i := 1071) (by decide +kernel), List.mem_of_getElem? (i := 1072) (by decide +kernel)⟩
theorem lw_p35 : lw_okq (⟨"ShameYardsModel", "beyond", "(II)I"⟩, 49) := ⟨⟨by decide +kernel, by decide +kernel⟩, List.mem_of_getElem? (i := 799) (by decide +kernel), List.mem_of_getElem? (i := 1075) (by decide +kernel), List.mem_of_getElem? (i := 1076) (by decide +kernel)⟩
theorem lw_p36 : lw_okq (⟨"ShameYardsModel", "isRoom", "(I)Z"⟩, 49) := ⟨⟨by decide +kernel, by decide +kernel⟩, List.mem_of_getElem? (i := 799) (by decide +kernel), List.mem_of_getElem? (i := 1099) (by decide +kernel), List.mem_of_getElem? (i := 1100) (by decide +kernel)⟩
theorem lw_p37 : lw_okq (⟨"ShameYardsModel", "farNow", "(IIII)I"⟩, 49) := ⟨⟨by decide +kernel, by decide +kernel⟩, List.mem_of_getElem? (i := 799) (by decide +kernel), List.mem_of_getElem? (i := 1103) (by decide +kernel), List.mem_of_getElem? (i := 1104) (by decide +kernel)⟩
theorem lw_p38 : lw_okq (⟨"ShameYardsModel", "farFrom", "(III)I"⟩, 49) := ⟨⟨by decide +kernel, by decide +kernel⟩, List.mem_of_getElem? (i := 799) (by decide +kernel), List.mem_of_getElem? (i := 1107) (by decide +kernel), List.mem_of_getElem? (i := 1108) (by decide +kernel)⟩
theorem lw_p39 : lw_okq (⟨"ShameYardsModel", "layFar", "(II)V"⟩, 49) := ⟨⟨by decide +kernel, by decide +kernel⟩, List.mem_of_getElem? (i := 799) (by decide +kernel), List.mem_of_getElem? (i := 1111) (by decide +kernel), List.mem_of_getElem? (i := 1112) (by decide +kernel)⟩
theorem lw_p40 : lw_okq (⟨"ShameYardsModel", "nextPassage", "(II)I"⟩, 49) := ⟨⟨by decide +kernel, by decide +kernel⟩, List.mem_of_getElem? (i := 799) (by decide +kernel), List.mem_of_getElem? (i := 1115) (by decide +kernel), List.mem_of_getElem? (i := 1116) (by decide +kernel)⟩
theorem lw_p41 : lw_okq (⟨"ShameYardsModel", "sendNow", "(I)I"⟩, 49) := ⟨⟨by decide +kernel, by decide +kernel⟩, List.mem_of_getElem? (i := 799) (by decide +kernel), List.mem_of_getElem? (i := 1123) (by decide +kernel), List.mem_of_getElem? (i := 1124) (by decide +kernel)⟩
theorem lw_p42 : lw_okq (⟨"ShameYardsModel", "sentSteps", "()I"⟩, 49) := ⟨⟨by decide +kernel, by decide +kernel⟩, List.mem_of_getElem? (i := 799) (by decide +kernel), List.mem_of_getElem? (i := 1127) (by decide +kernel), List.mem_of_getElem? (i := 1128) (by decide +kernel)⟩
theorem lw_p43 : lw_okq (⟨"ShameYardsModel", "nextSent", "()Z"⟩, 49) := ⟨⟨by decide +kernel, by decide +kernel⟩, List.mem_of_getElem? (i := 799) (by decide +kernel), List.mem_of_getElem? (i := 1131) (by decide +kernel), List.mem_of_getElem? (i := 1132) (by decide +kernel)⟩
theorem lw_p44 : lw_okq (⟨"ShameYardsModel", "pairsNow", "(II)I"⟩, 49) := ⟨⟨by decide +kernel, by decide +kernel⟩, List.mem_of_getElem? (i := 799) (by decide +kernel), List.mem_of_getElem? (i := 1139) (by decide +kernel), List.mem_of_getElem? (i := 1140) (by decide +kernel)⟩
theorem lw_p45 : lw_okq (⟨"ShameYardsModel", "arePairs", "()Z"⟩, 49) := ⟨⟨by decide +kernel, by decide +kernel⟩, List.mem_of_getElem? (i := 799) (by decide +kernel), List.mem_of_getElem? (i := 1143) (by decide +kernel), List.mem_of_getElem? (i := 1144) (by decide +kernel)⟩
theorem lw_p46 : lw_okq (⟨"ShameYardsModel", "mostSteps", "(I)I"⟩, 49) := ⟨⟨by decide +kernel, by decide +kernel⟩, List.mem_of_getElem? (i := 799) (by decide +kernel), List.mem_of_getElem? (i := 1147) (by decide +kernel), List.mem_of_getElem? (i := 1148) (by decide +kernel)⟩
theorem lw_p47 : lw_okq (⟨"ShameYardsModel", "goTogether", "()I"⟩, 49) := ⟨⟨by decide +kernel, by decide +kernel⟩, List.mem_of_getElem? (i := 799) (by decide +kernel), List.mem_of_getElem? (i := 1151) (by decide +kernel), List.mem_of_getElem? (i := 1152) (by decide +kernel)⟩
def lw_privs_3 : List (MethodName × Nat) := [(⟨"ShameYardsModel", "isWith", "(II)Z"⟩, 49), (⟨"ShameYardsModel", "endsAt", "(II)Z"⟩, 49), (⟨"ShameYardsModel", "isTired", "(I)Z"⟩, 49), (⟨"ShameYardsModel", "beyond", "(II)I"⟩, 49), (⟨"ShameYardsModel", "isRoom", "(I)Z"⟩, 49), (⟨"ShameYardsModel", "farNow", "(IIII)I"⟩, 49), (⟨"ShameYardsModel", "farFrom", "(III)I"⟩, 49), (⟨"ShameYardsModel", "layFar", "(II)V"⟩, 49), (⟨"ShameYardsModel", "nextPassage", "(II)I"⟩, 49), (⟨"ShameYardsModel", "sendNow", "(I)I"⟩, 49), (⟨"ShameYardsModel", "sentSteps", "()I"⟩, 49), (⟨"ShameYardsModel", "nextSent", "()Z"⟩, 49), (⟨"ShameYardsModel", "pairsNow", "(II)I"⟩, 49), (⟨"ShameYardsModel", "arePairs", "()Z"⟩, 49), (⟨"ShameYardsModel", "mostSteps", "(I)I"⟩, 49), (⟨"ShameYardsModel", "goTogether", "()I"⟩, 49)]
theorem lw_r3 : ∀ q ∈ lw_privs_3, lw_okq q := List.forall_mem_cons.mpr ⟨lw_p32, List.forall_mem_cons.mpr ⟨lw_p33, List.forall_mem_cons.mpr ⟨lw_p34, List.forall_mem_cons.mpr ⟨lw_p35, List.forall_mem_cons.mpr ⟨lw_p36, List.forall_mem_cons.mpr ⟨lw_p37, List.forall_mem_cons.mpr ⟨lw_p38, List.forall_mem_cons.mpr ⟨lw_p39, List.forall_mem_cons.mpr ⟨lw_p40, List.forall_mem_cons.mpr ⟨lw_p41, List.forall_mem_cons.mpr ⟨lw_p42, List.forall_mem_cons.mpr ⟨lw_p43, List.forall_mem_cons.mpr ⟨lw_p44, List.forall_mem_cons.mpr ⟨lw_p45, List.forall_mem_cons.mpr ⟨lw_p46, List.forall_mem_cons.mpr ⟨lw_p47, fun _ h => absurd h List.not_mem_nil⟩⟩⟩⟩⟩⟩⟩⟩⟩⟩⟩⟩⟩⟩⟩⟩
theorem lw_p48 : lw_okq (⟨"ShameYardsModel", "nextMates", "()Z"⟩, 49) := ⟨⟨by decide +kernel, by decide +kernel⟩, List.mem_of_getElem? (i := 799) (by decide +kernel), List.mem_of_getElem? (i := 1155) (by decide +kernel), List.mem_of_getElem? (i := 1156) (by decide +kernel)⟩
theorem lw_p49 : lw_okq (⟨"ShameYardsModel", "meetNow", "(IIII)J"⟩, 49) := ⟨⟨by decide +kernel, by decide +kernel⟩, List.mem_of_getElem? (i := 799) (by decide +kernel), List.mem_of_getElem? (i := 1164) (by decide +kernel), List.mem_of_getElem? (i := 1165) (by decide +kernel)⟩
theorem lw_p50 : lw_okq (⟨"ShameYardsModel", "turn", "(I)V"⟩, 49) := ⟨⟨by decide +kernel, by decide +kernel⟩, List.mem_of_getElem? (i := 799) (by decide +kernel), List.mem_of_getElem? (i := 1168) (by decide +kernel), List.mem_of_getElem? (i := 1169) (by decide +kernel)⟩
theorem lw_p51 : lw_okq (⟨"ShameYardsModel", "ending", "(I)I"⟩, 49) := ⟨⟨by decide +kernel, by decide +kernel⟩, List.mem_of_getElem? (i := 799) (by decide +kernel), List.mem_of_getElem? (i := 1172) (by decide +kernel), List.mem_of_getElem? (i := 1173) (by decide +kernel)⟩
theorem lw_p52 : lw_okq (⟨"ShameYardsModel", "daysNow", "(III)I"⟩, 49) := ⟨⟨by decide +kernel, by decide +kernel⟩, List.mem_of_getElem? (i := 799) (by decide +kernel), List.mem_of_getElem? (i := 1194) (by decide +kernel), List.mem_of_getElem? (i := 1195) (by decide +kernel)⟩
theorem lw_p53 : lw_okq (⟨"ShameYardsModel", "draw", "(I)I"⟩, 49) := ⟨⟨by decide +kernel, by decide +kernel⟩, List.mem_of_getElem? (i := 799) (by decide +kernel), List.mem_of_getElem? (i := 1198) (by decide +kernel), List.mem_of_getElem? (i := 1199) (by decide +kernel)⟩
theorem lw_p54 : lw_okq (⟨"ShameYardsModel", "passageAt", "(II)I"⟩, 49) := ⟨⟨by decide +kernel, by decide +kernel⟩, List.mem_of_getElem? (i := 799) (by decide +kernel), List.mem_of_getElem? (i := 1206) (by decide +kernel), List.mem_of_getElem? (i := 1207) (by decide +kernel)⟩
theorem lw_p55 : lw_okq (⟨"ShameYardsModel", "inRoom", "(I)I"⟩, 49) := ⟨⟨by decide +kernel, by decide +kernel⟩, List.mem_of_getElem? (i := 799) (by decide +kernel), List.mem_of_getElem? (i := 1210) (by decide +kernel), List.mem_of_getElem? (i := 1211) (by decide +kernel)⟩
theorem lw_p56 : lw_okq (⟨"ShameYardsModel", "tookAll", "()I"⟩, 49) := ⟨⟨by decide +kernel, by decide +kernel⟩, List.mem_of_getElem? (i := 799) (by decide +kernel), List.mem_of_getElem? (i := 1218) (by decide +kernel), List.mem_of_getElem? (i := 1219) (by decide +kernel)⟩
theorem lw_p57 : lw_okq (⟨"ShameYardsModel", "howMany", "(I)I"⟩, 49) := ⟨⟨by decide +kernel, by decide +kernel⟩, List.mem_of_getElem? (i := 799) (by decide +kernel), List.mem_of_getElem? (i := 1230) (by decide +kernel), List.mem_of_getElem? (i := 1231) (by decide +kernel)⟩
theorem lw_p58 : lw_okq (⟨"ShameYardsModel", "sumOf", "(Z)I"⟩, 49) := ⟨⟨by decide +kernel, by decide +kernel⟩, List.mem_of_getElem? (i := 799) (by decide +kernel), List.mem_of_getElem? (i := 1234) (by decide +kernel), List.mem_of_getElem? (i := 1235) (by decide +kernel)⟩
theorem lw_p59 : lw_okq (⟨"ShameYardsModel", "mixPerson", "(I)V"⟩, 49) := ⟨⟨by decide +kernel, by decide +kernel⟩, List.mem_of_getElem? (i := 799) (by decide +kernel), List.mem_of_getElem? (i := 1243) (by decide +kernel), List.mem_of_getElem? (i := 1244) (by decide +kernel)⟩
theorem lw_p60 : lw_okq (⟨"ShameYardsModel", "mix", "(J)V"⟩, 49) := ⟨⟨by decide +kernel, by decide +kernel⟩, List.mem_of_getElem? (i := 799) (by decide +kernel), List.mem_of_getElem? (i := 1247) (by decide +kernel), List.mem_of_getElem? (i := 1248) (by decide +kernel)⟩
def lw_privs_4 : List (MethodName × Nat) := [(⟨"ShameYardsModel", "nextMates", "()Z"⟩, 49), (⟨"ShameYardsModel", "meetNow", "(IIII)J"⟩, 49), (⟨"ShameYardsModel", "turn", "(I)V"⟩, 49), (⟨"ShameYardsModel", "ending", "(I)I"⟩, 49), (⟨"ShameYardsModel", "daysNow", "(III)I"⟩, 49), (⟨"ShameYardsModel", "draw", "(I)I"⟩, 49), (⟨"ShameYardsModel", "passageAt", "(II)I"⟩, 49), (⟨"ShameYardsModel", "inRoom", "(I)I"⟩, 49), (⟨"ShameYardsModel", "tookAll", "()I"⟩, 49), (⟨"ShameYardsModel", "howMany", "(I)I"⟩, 49), (⟨"ShameYardsModel", "sumOf", "(Z)I"⟩, 49), (⟨"ShameYardsModel", "mixPerson", "(I)V"⟩, 49), (⟨"ShameYardsModel", "mix", "(J)V"⟩, 49)]
theorem lw_r4 : ∀ q ∈ lw_privs_4, lw_okq q := List.forall_mem_cons.mpr ⟨lw_p48, List.forall_mem_cons.mpr ⟨lw_p49, List.forall_mem_cons.mpr ⟨lw_p50, List.forall_mem_cons.mpr ⟨lw_p51, List.forall_mem_cons.mpr ⟨lw_p52, List.forall_mem_cons.mpr ⟨lw_p53, List.forall_mem_cons.mpr ⟨lw_p54, List.forall_mem_cons.mpr ⟨lw_p55, List.forall_mem_cons.mpr ⟨lw_p56, List.forall_mem_cons.mpr ⟨lw_p57, List.forall_mem_cons.mpr ⟨lw_p58, List.forall_mem_cons.mpr ⟨lw_p59, List.forall_mem_cons.mpr ⟨lw_p60, fun _ h => absurd h List.not_mem_nil⟩⟩⟩⟩⟩⟩⟩⟩⟩⟩⟩⟩⟩
def lw_privs : List (MethodName × Nat) := lw_privs_1 ++ (lw_privs_2 ++ (lw_privs_3 ++ (lw_privs_4)))
def lw_tbl : List Cond := k2_sels lw_privs ++ tables_1
theorem lw_privs_ok : ∀ q ∈ lw_privs, lw_okq q := by
  show ∀ q ∈ lw_privs_1 ++ (lw_privs_2 ++ (lw_privs_3 ++ (lw_privs_4))), lw_okq q
  exact List.forall_mem_append.mpr ⟨lw_r1, List.forall_mem_append.mpr ⟨lw_r2, List.forall_mem_append.mpr ⟨lw_r3, lw_r4⟩⟩⟩
end
section
/-! ===== BEGIN words of one list among another's, by their places ===== -/
theorem goodIn_r {big : List Cond} (ws : List Cond) (ps : List Nat) (hp : ws = ps.filterMap (fun i => big[i]?)) (h : ws.all goodWord = true) : GoodIn big ws := by
  intro w hw
  have h1 := List.all_eq_true.mp h w hw
  rw [hp] at hw
  obtain ⟨i, -, hi⟩ := List.mem_filterMap.mp hw
  have hm : w ∈ big := by first | exact List.mem_of_getElem? hi | exact List.getElem?_mem hi
  exact ⟨hm, good_of_word h1⟩
theorem goodIn_app {big a b : List Cond} (ha : GoodIn big a) (hb : GoodIn big b) : GoodIn big (a ++ b) := fun w h => (List.mem_append.mp h).elim (ha w) (hb w)
theorem goodIn_ca {big a b : List Cond} {c : Cond} (ha : GoodIn big (c :: a)) (hb : GoodIn big b) : GoodIn big (c :: (a ++ b)) := fun w h => (List.mem_cons.mp h).elim (fun e => ha w (List.mem_cons.mpr (Or.inl e))) (fun h => (List.mem_append.mp h).elim (fun h => ha w (List.mem_cons.mpr (Or.inr h))) (hb w))
theorem goodIn_sub {big ws : List Cond} (hm : ∀ w ∈ ws, w ∈ big) (h : ws.all goodWord = true) : GoodIn big ws := fun w hw => ⟨hm w hw, good_of_word (List.all_eq_true.mp h w hw)⟩
/-! ===== END ===== -/

/-! ===== BEGIN printed: names, fields, word lists, decode rows ===== -/
def RX0 : String := "ShameYards$Boy"
def TX0 : u_T := fun k => match k with
  | _ => ("", "", "", false)
def tyX0 : Nat → FieldType := fun k => match k with
  | _ => .int
abbrev wsX00 : List Cond := u_ws RX0 TX0 0
theorem nmX0 : ∀ a, a < 0 → ∀ b, b < 0 → a ≠ b → (TX0 a).2.1 ≠ (TX0 b).2.1 := by decide +kernel
theorem tyX0_ok : ∀ k, k < 0 → parseFieldDescriptor (TX0 k).2.2.1 = some (tyX0 k) := by decide +kernel
abbrev cX0_init : ByteArray := prog_2_method_1_code
def yX0_init : MethodName := ⟨RX0, "<init>", "()V"⟩
abbrev cX0_yards : ByteArray := prog_2_method_2_code
def yX0_yards : MethodName := ⟨RX0, "yards", "(III)I"⟩
def RX1 : String := "ShameYards$Clerk"
def TX1 : u_T := fun k => match k with
  | _ => ("", "", "", false)
def tyX1 : Nat → FieldType := fun k => match k with
  | _ => .int
abbrev wsX10 : List Cond := u_ws RX1 TX1 0
theorem nmX1 : ∀ a, a < 0 → ∀ b, b < 0 → a ≠ b → (TX1 a).2.1 ≠ (TX1 b).2.1 := by decide +kernel
theorem tyX1_ok : ∀ k, k < 0 → parseFieldDescriptor (TX1 k).2.2.1 = some (tyX1 k) := by decide +kernel
abbrev cX1_init : ByteArray := prog_3_method_1_code
def yX1_init : MethodName := ⟨RX1, "<init>", "()V"⟩
abbrev cX1_yards : ByteArray := prog_3_method_2_code
def yX1_yards : MethodName := ⟨RX1, "yards", "(III)I"⟩
def RX2 : String := "ShameYards$House"
def TX2 : u_T := fun k => match k with
  | 0 => ("ShameYards$House", "clerks", "[LShameYards$Clerk;", true)
  | 1 => ("ShameYards$House", "roomCount", "I", false)
  | 2 => ("ShameYards$House", "passageCount", "I", false)
  | 3 => ("ShameYards$House", "peopleCount", "I", false)
  | 4 => ("ShameYards$House", "oneEnd", "[I", true)
  | 5 => ("ShameYards$House", "otherEnd", "[I", true)
  | 6 => ("ShameYards$House", "lengths", "[I", true)
  | 7 => ("ShameYards$House", "kinds", "[I", true)
  | 8 => ("ShameYards$House", "deeds", "[I", true)
  | 9 => ("ShameYards$House", "lies", "[I", true)
  | 10 => ("ShameYards$House", "places", "[I", true)
  | 11 => ("ShameYards$House", "taken", "[I", true)
  | 12 => ("ShameYards$House", "walksTogether", "I", false)
  | 13 => ("ShameYards$House", "seenCount", "I", false)
  | 14 => ("ShameYards$House", "seenPerson", "[I", true)
  | 15 => ("ShameYards$House", "seenPassage", "[I", true)
  | 16 => ("ShameYards$House", "seenWith", "[I", true)
  | _ => ("ShameYards$House", "seenSteps", "[I", true)
def tyX2 : Nat → FieldType := fun k => match k with
  | 0 => .array (.object "ShameYards$Clerk")
  | 1 => .int
  | 2 => .int
  | 3 => .int
  | 4 => .array .int
  | 5 => .array .int
  | 6 => .array .int
  | 7 => .array .int
  | 8 => .array .int
  | 9 => .array .int
  | 10 => .array .int
  | 11 => .array .int
  | 12 => .int
  | 13 => .int
  | 14 => .array .int
  | 15 => .array .int
  | 16 => .array .int
  | _ => .array .int
abbrev wsX20 : List Cond := u_ws RX2 TX2 18
theorem nmX2 : ∀ a, a < 18 → ∀ b, b < 18 → a ≠ b → (TX2 a).2.1 ≠ (TX2 b).2.1 := by decide +kernel
theorem tyX2_ok : ∀ k, k < 18 → parseFieldDescriptor (TX2 k).2.2.1 = some (tyX2 k) := by decide +kernel
abbrev cX2_init : ByteArray := prog_4_method_1_code
def yX2_init : MethodName := ⟨RX2, "<init>", "()V"⟩
abbrev cX2_settle : ByteArray := prog_4_method_2_code
def yX2_settle : MethodName := ⟨RX2, "settle", "(LShameYards$Page;)V"⟩
abbrev cX2_copyFrom : ByteArray := prog_4_method_3_code
def yX2_copyFrom : MethodName := ⟨RX2, "copyFrom", "(LShameYards$House;)V"⟩
abbrev cX2_isThere : ByteArray := prog_4_method_4_code
def yX2_isThere : MethodName := ⟨RX2, "isThere", "()Z"⟩
abbrev cX2_hasPerson : ByteArray := prog_4_method_5_code
def yX2_hasPerson : MethodName := ⟨RX2, "hasPerson", "(I)Z"⟩
abbrev cX2_hasPassage : ByteArray := prog_4_method_6_code
def yX2_hasPassage : MethodName := ⟨RX2, "hasPassage", "(I)Z"⟩
abbrev cX2_hasRoom : ByteArray := prog_4_method_7_code
def yX2_hasRoom : MethodName := ⟨RX2, "hasRoom", "(I)Z"⟩
abbrev cX2_knows : ByteArray := prog_4_method_8_code
def yX2_knows : MethodName := ⟨RX2, "knows", "(III)Z"⟩
abbrev cX2_clerk : ByteArray := prog_4_method_9_code
def yX2_clerk : MethodName := ⟨RX2, "clerk", "(I)LShameYards$Clerk;"⟩
abbrev cX2_aloneSteps : ByteArray := prog_4_method_10_code
def yX2_aloneSteps : MethodName := ⟨RX2, "aloneSteps", "(II)I"⟩
abbrev cX2_stepsWithLies : ByteArray := prog_4_method_11_code
def yX2_stepsWithLies : MethodName := ⟨RX2, "stepsWithLies", "(IIII)I"⟩
abbrev cX2_stepsOf : ByteArray := prog_4_method_12_code
def yX2_stepsOf : MethodName := ⟨RX2, "stepsOf", "(III)I"⟩
abbrev cX2_endsAt : ByteArray := prog_4_method_13_code
def yX2_endsAt : MethodName := ⟨RX2, "endsAt", "(II)Z"⟩
abbrev cX2_across : ByteArray := prog_4_method_14_code
def yX2_across : MethodName := ⟨RX2, "across", "(II)I"⟩
abbrev cX2_doorsOf : ByteArray := prog_4_method_15_code
def yX2_doorsOf : MethodName := ⟨RX2, "doorsOf", "(I)I"⟩
abbrev cX2_doorOf : ByteArray := prog_4_method_16_code
def yX2_doorOf : MethodName := ⟨RX2, "doorOf", "(II)I"⟩
abbrev cX2_mayLeaveBy : ByteArray := prog_4_method_17_code
def yX2_mayLeaveBy : MethodName := ⟨RX2, "mayLeaveBy", "(III)Z"⟩
abbrev cX2_walk : ByteArray := prog_4_method_18_code
def yX2_walk : MethodName := ⟨RX2, "walk", "(III)I"⟩
abbrev cX2_note : ByteArray := prog_4_method_19_code
def yX2_note : MethodName := ⟨RX2, "note", "(IIII)V"⟩
abbrev cX2_sumOfPeople : ByteArray := prog_4_method_20_code
def yX2_sumOfPeople : MethodName := ⟨RX2, "sumOfPeople", "([I)I"⟩
abbrev cX2_peopleInRoomZero : ByteArray := prog_4_method_21_code
def yX2_peopleInRoomZero : MethodName := ⟨RX2, "peopleInRoomZero", "()I"⟩
def RX3 : String := "ShameYards$Lamp"
def TX3 : u_T := fun k => match k with
  | _ => ("", "", "", false)
def tyX3 : Nat → FieldType := fun k => match k with
  | _ => .int
abbrev wsX30 : List Cond := u_ws RX3 TX3 0
theorem nmX3 : ∀ a, a < 0 → ∀ b, b < 0 → a ≠ b → (TX3 a).2.1 ≠ (TX3 b).2.1 := by decide +kernel
theorem tyX3_ok : ∀ k, k < 0 → parseFieldDescriptor (TX3 k).2.2.1 = some (tyX3 k) := by decide +kernel
abbrev cX3_init : ByteArray := prog_5_method_1_code
def yX3_init : MethodName := ⟨RX3, "<init>", "()V"⟩
abbrev cX3_yards : ByteArray := prog_5_method_2_code
def yX3_yards : MethodName := ⟨RX3, "yards", "(III)I"⟩
def RX4 : String := "ShameYards$Minister"
def TX4 : u_T := fun k => match k with
  | _ => ("", "", "", false)
def tyX4 : Nat → FieldType := fun k => match k with
  | _ => .int
abbrev wsX40 : List Cond := u_ws RX4 TX4 0
theorem nmX4 : ∀ a, a < 0 → ∀ b, b < 0 → a ≠ b → (TX4 a).2.1 ≠ (TX4 b).2.1 := by decide +kernel
theorem tyX4_ok : ∀ k, k < 0 → parseFieldDescriptor (TX4 k).2.2.1 = some (tyX4 k) := by decide +kernel
abbrev cX4_init : ByteArray := prog_6_method_1_code
def yX4_init : MethodName := ⟨RX4, "<init>", "()V"⟩
abbrev cX4_yards : ByteArray := prog_6_method_2_code
def yX4_yards : MethodName := ⟨RX4, "yards", "(III)I"⟩
def RX5 : String := "ShameYards$Page"
def TX5 : u_T := fun k => match k with
  | 0 => ("ShameYards$Page", "codes", "[I", true)
  | _ => ("ShameYards$Page", "size", "I", false)
def tyX5 : Nat → FieldType := fun k => match k with
  | 0 => .array .int
  | _ => .int
abbrev wsX50 : List Cond := u_ws RX5 TX5 2
theorem nmX5 : ∀ a, a < 2 → ∀ b, b < 2 → a ≠ b → (TX5 a).2.1 ≠ (TX5 b).2.1 := by decide +kernel
theorem tyX5_ok : ∀ k, k < 2 → parseFieldDescriptor (TX5 k).2.2.1 = some (tyX5 k) := by decide +kernel
abbrev cX5_init : ByteArray := prog_7_method_1_code
def yX5_init : MethodName := ⟨RX5, "<init>", "()V"⟩
abbrev cX5_append : ByteArray := prog_7_method_2_code
def yX5_append : MethodName := ⟨RX5, "append", "(I)V"⟩
abbrev cX5_codeAt : ByteArray := prog_7_method_3_code
def yX5_codeAt : MethodName := ⟨RX5, "codeAt", "(I)I"⟩
abbrev cX5_digitAt : ByteArray := prog_7_method_4_code
def yX5_digitAt : MethodName := ⟨RX5, "digitAt", "(I)I"⟩
abbrev cX5_kindAt : ByteArray := prog_7_method_5_code
def yX5_kindAt : MethodName := ⟨RX5, "kindAt", "(I)I"⟩
abbrev cX5_border : ByteArray := prog_7_method_6_code
def yX5_border : MethodName := ⟨RX5, "border", "()I"⟩
abbrev cX5_firstFault : ByteArray := prog_7_method_7_code
def yX5_firstFault : MethodName := ⟨RX5, "firstFault", "()I"⟩
abbrev cX5_isWhole : ByteArray := prog_7_method_8_code
def yX5_isWhole : MethodName := ⟨RX5, "isWhole", "()Z"⟩
abbrev cX5_fits : ByteArray := prog_7_method_9_code
def yX5_fits : MethodName := ⟨RX5, "fits", "(II)Z"⟩
abbrev cX5_fitsPassage : ByteArray := prog_7_method_10_code
def yX5_fitsPassage : MethodName := ⟨RX5, "fitsPassage", "(I)Z"⟩
abbrev cX5_fitsPerson : ByteArray := prog_7_method_11_code
def yX5_fitsPerson : MethodName := ⟨RX5, "fitsPerson", "(II)Z"⟩
abbrev cX5_isDigit : ByteArray := prog_7_method_12_code
def yX5_isDigit : MethodName := ⟨RX5, "isDigit", "(III)Z"⟩
def RX6 : String := "ShameYards$Pairing"
def TX6 : u_T := fun k => match k with
  | 0 => ("ShameYards$Pairing", "has", "[[I", true)
  | 1 => ("ShameYards$Pairing", "trial", "[I", true)
  | 2 => ("ShameYards$Pairing", "best", "[I", true)
  | 3 => ("ShameYards$Pairing", "people", "I", false)
  | 4 => ("ShameYards$Pairing", "leastMost", "I", false)
  | _ => ("ShameYards$Pairing", "leastPairs", "I", false)
def tyX6 : Nat → FieldType := fun k => match k with
  | 0 => .array (.array .int)
  | 1 => .array .int
  | 2 => .array .int
  | 3 => .int
  | 4 => .int
  | _ => .int
abbrev wsX60 : List Cond := u_ws RX6 TX6 6
theorem nmX6 : ∀ a, a < 6 → ∀ b, b < 6 → a ≠ b → (TX6 a).2.1 ≠ (TX6 b).2.1 := by decide +kernel
theorem tyX6_ok : ∀ k, k < 6 → parseFieldDescriptor (TX6 k).2.2.1 = some (tyX6 k) := by decide +kernel
abbrev cX6_init : ByteArray := prog_8_method_1_code
def yX6_init : MethodName := ⟨RX6, "<init>", "()V"⟩
abbrev cX6_arrange : ByteArray := prog_8_method_2_code
def yX6_arrange : MethodName := ⟨RX6, "arrange", "(LShameYards$House;I)V"⟩
abbrev cX6_arrangeFrom : ByteArray := prog_8_method_3_code
def yX6_arrangeFrom : MethodName := ⟨RX6, "arrangeFrom", "(LShameYards$Pairing;IIII)V"⟩
abbrev cX6_isBetter : ByteArray := prog_8_method_4_code
def yX6_isBetter : MethodName := ⟨RX6, "isBetter", "(II)Z"⟩
abbrev cX6_keep : ByteArray := prog_8_method_5_code
def yX6_keep : MethodName := ⟨RX6, "keep", "(II)V"⟩
abbrev cX6_partnerOf : ByteArray := prog_8_method_6_code
def yX6_partnerOf : MethodName := ⟨RX6, "partnerOf", "(LShameYards$House;I)I"⟩
def RX7 : String := "ShameYards$Sight"
def TX7 : u_T := fun k => match k with
  | _ => ("", "", "", false)
def tyX7 : Nat → FieldType := fun k => match k with
  | _ => .int
abbrev wsX70 : List Cond := u_ws RX7 TX7 0
theorem nmX7 : ∀ a, a < 0 → ∀ b, b < 0 → a ≠ b → (TX7 a).2.1 ≠ (TX7 b).2.1 := by decide +kernel
theorem tyX7_ok : ∀ k, k < 0 → parseFieldDescriptor (TX7 k).2.2.1 = some (tyX7 k) := by decide +kernel
abbrev cX7_possibleLies : ByteArray := prog_9_method_2_code
def yX7_possibleLies : MethodName := ⟨RX7, "possibleLies", "(LShameYards$House;I)I"⟩
abbrev cX7_isAsSeen : ByteArray := prog_9_method_3_code
def yX7_isAsSeen : MethodName := ⟨RX7, "isAsSeen", "(LShameYards$House;II)Z"⟩
abbrev cX7_bestQuestion : ByteArray := prog_9_method_4_code
def yX7_bestQuestion : MethodName := ⟨RX7, "bestQuestion", "(LShameYards$House;I)I"⟩
abbrev cX7_leftAtWorst : ByteArray := prog_9_method_5_code
def yX7_leftAtWorst : MethodName := ⟨RX7, "leftAtWorst", "(LShameYards$House;IIII)I"⟩
def RX8 : String := "ShameYards$Wander"
def TX8 : u_T := fun k => match k with
  | 0 => ("ShameYards$Wander", "chancesOfA", "[J", true)
  | 1 => ("ShameYards$Wander", "chancesOfB", "[J", true)
  | 2 => ("ShameYards$Wander", "next", "[J", true)
  | 3 => ("ShameYards$Wander", "dreamt", "LShameYards$House;", true)
  | 4 => ("ShameYards$Wander", "above", "J", false)
  | 5 => ("ShameYards$Wander", "below", "J", false)
  | 6 => ("ShameYards$Wander", "dreamtSteps", "I", false)
  | _ => ("ShameYards$Wander", "seed", "I", false)
def tyX8 : Nat → FieldType := fun k => match k with
  | 0 => .array .long
  | 1 => .array .long
  | 2 => .array .long
  | 3 => .object "ShameYards$House"
  | 4 => .long
  | 5 => .long
  | 6 => .int
  | _ => .int
abbrev wsX80 : List Cond := u_ws RX8 TX8 8
theorem nmX8 : ∀ a, a < 8 → ∀ b, b < 8 → a ≠ b → (TX8 a).2.1 ≠ (TX8 b).2.1 := by decide +kernel
theorem tyX8_ok : ∀ k, k < 8 → parseFieldDescriptor (TX8 k).2.2.1 = some (tyX8 k) := by decide +kernel
abbrev cX8_init : ByteArray := prog_10_method_1_code
def yX8_init : MethodName := ⟨RX8, "<init>", "()V"⟩
abbrev cX8_compare : ByteArray := prog_10_method_2_code
def yX8_compare : MethodName := ⟨RX8, "compare", "(LShameYards$House;III)V"⟩
abbrev cX8_spread : ByteArray := prog_10_method_3_code
def yX8_spread : MethodName := ⟨RX8, "spread", "(LShameYards$House;II[J)V"⟩
abbrev cX8_shareOut : ByteArray := prog_10_method_4_code
def yX8_shareOut : MethodName := ⟨RX8, "shareOut", "(LShameYards$House;IJ)V"⟩
abbrev cX8_commonDivisor : ByteArray := prog_10_method_5_code
def yX8_commonDivisor : MethodName := ⟨RX8, "commonDivisor", "(JJ)J"⟩
abbrev cX8_dream : ByteArray := prog_10_method_6_code
def yX8_dream : MethodName := ⟨RX8, "dream", "(LShameYards$House;II)V"⟩
abbrev cX8_dreamOfOne : ByteArray := prog_10_method_7_code
def yX8_dreamOfOne : MethodName := ⟨RX8, "dreamOfOne", "()V"⟩
abbrev cX8_draw : ByteArray := prog_10_method_8_code
def yX8_draw : MethodName := ⟨RX8, "draw", "(I)I"⟩
abbrev cX8_dreamtInRoomZero : ByteArray := prog_10_method_9_code
def yX8_dreamtInRoomZero : MethodName := ⟨RX8, "dreamtInRoomZero", "()I"⟩
def RX9 : String := "ShameYards$Ways"
def TX9 : u_T := fun k => match k with
  | 0 => ("ShameYards$Ways", "tolls", "[I", true)
  | 1 => ("ShameYards$Ways", "reach", "[I", true)
  | 2 => ("ShameYards$Ways", "costs", "[[I", true)
  | 3 => ("ShameYards$Ways", "trial", "[I", true)
  | 4 => ("ShameYards$Ways", "best", "[I", true)
  | _ => ("ShameYards$Ways", "fewest", "I", false)
def tyX9 : Nat → FieldType := fun k => match k with
  | 0 => .array .int
  | 1 => .array .int
  | 2 => .array (.array .int)
  | 3 => .array .int
  | 4 => .array .int
  | _ => .int
abbrev wsX90 : List Cond := u_ws RX9 TX9 6
theorem nmX9 : ∀ a, a < 6 → ∀ b, b < 6 → a ≠ b → (TX9 a).2.1 ≠ (TX9 b).2.1 := by decide +kernel
theorem tyX9_ok : ∀ k, k < 6 → parseFieldDescriptor (TX9 k).2.2.1 = some (tyX9 k) := by decide +kernel
abbrev cX9_init : ByteArray := prog_11_method_1_code
def yX9_init : MethodName := ⟨RX9, "<init>", "()V"⟩
abbrev cX9_measure : ByteArray := prog_11_method_2_code
def yX9_measure : MethodName := ⟨RX9, "measure", "(LShameYards$House;II)V"⟩
abbrev cX9_shorten : ByteArray := prog_11_method_3_code
def yX9_shorten : MethodName := ⟨RX9, "shorten", "(III)V"⟩
abbrev cX9_stepsFrom : ByteArray := prog_11_method_4_code
def yX9_stepsFrom : MethodName := ⟨RX9, "stepsFrom", "(I)I"⟩
abbrev cX9_legFrom : ByteArray := prog_11_method_5_code
def yX9_legFrom : MethodName := ⟨RX9, "legFrom", "(LShameYards$House;II)I"⟩
abbrev cX9_nextLeg : ByteArray := prog_11_method_6_code
def yX9_nextLeg : MethodName := ⟨RX9, "nextLeg", "(LShameYards$House;I)I"⟩
abbrev cX9_assign : ByteArray := prog_11_method_7_code
def yX9_assign : MethodName := ⟨RX9, "assign", "(LShameYards$House;)V"⟩
abbrev cX9_assignFrom : ByteArray := prog_11_method_8_code
def yX9_assignFrom : MethodName := ⟨RX9, "assignFrom", "(LShameYards$Ways;LShameYards$House;III)V"⟩
abbrev cX9_assignedSteps : ByteArray := prog_11_method_9_code
def yX9_assignedSteps : MethodName := ⟨RX9, "assignedSteps", "()I"⟩
abbrev cX9_assignedTo : ByteArray := prog_11_method_10_code
def yX9_assignedTo : MethodName := ⟨RX9, "assignedTo", "(LShameYards$House;I)I"⟩
def RX10 : String := "ShameYards$Woman"
def TX10 : u_T := fun k => match k with
  | _ => ("", "", "", false)
def tyX10 : Nat → FieldType := fun k => match k with
  | _ => .int
abbrev wsX100 : List Cond := u_ws RX10 TX10 0
theorem nmX10 : ∀ a, a < 0 → ∀ b, b < 0 → a ≠ b → (TX10 a).2.1 ≠ (TX10 b).2.1 := by decide +kernel
theorem tyX10_ok : ∀ k, k < 0 → parseFieldDescriptor (TX10 k).2.2.1 = some (tyX10 k) := by decide +kernel
abbrev cX10_init : ByteArray := prog_12_method_1_code
def yX10_init : MethodName := ⟨RX10, "<init>", "()V"⟩
abbrev cX10_yards : ByteArray := prog_12_method_2_code
def yX10_yards : MethodName := ⟨RX10, "yards", "(III)I"⟩
def RX11 : String := "ShameYards"
def TX11 : u_T := fun k => match k with
  | 0 => ("ShameYards", "page", "LShameYards$Page;", true)
  | 1 => ("ShameYards", "now", "LShameYards$House;", true)
  | 2 => ("ShameYards", "kept", "LShameYards$House;", true)
  | 3 => ("ShameYards", "ways", "LShameYards$Ways;", true)
  | 4 => ("ShameYards", "pairing", "LShameYards$Pairing;", true)
  | 5 => ("ShameYards", "wander", "LShameYards$Wander;", true)
  | 6 => ("ShameYards", "imageStands", "Z", false)
  | 7 => ("ShameYards", "reads", "I", false)
  | _ => ("ShameYards", "sends", "I", false)
def tyX11 : Nat → FieldType := fun k => match k with
  | 0 => .object "ShameYards$Page"
  | 1 => .object "ShameYards$House"
  | 2 => .object "ShameYards$House"
  | 3 => .object "ShameYards$Ways"
  | 4 => .object "ShameYards$Pairing"
  | 5 => .object "ShameYards$Wander"
  | 6 => .boolean
  | 7 => .int
  | _ => .int
abbrev wsX110 : List Cond := u_ws RX11 TX11 9
theorem nmX11 : ∀ a, a < 9 → ∀ b, b < 9 → a ≠ b → (TX11 a).2.1 ≠ (TX11 b).2.1 := by decide +kernel
theorem tyX11_ok : ∀ k, k < 9 → parseFieldDescriptor (TX11 k).2.2.1 = some (tyX11 k) := by decide +kernel
abbrev cX11_init : ByteArray := prog_1_method_1_code
def yX11_init : MethodName := ⟨RX11, "<init>", "()V"⟩
abbrev cX11_letter : ByteArray := prog_1_method_2_code
def yX11_letter : MethodName := ⟨RX11, "letter", "(I)I"⟩
abbrev cX11_blank : ByteArray := prog_1_method_3_code
def yX11_blank : MethodName := ⟨RX11, "blank", "()I"⟩
abbrev cX11_fault : ByteArray := prog_1_method_4_code
def yX11_fault : MethodName := ⟨RX11, "fault", "()I"⟩
abbrev cX11_ministry : ByteArray := prog_1_method_5_code
def yX11_ministry : MethodName := ⟨RX11, "ministry", "()I"⟩
abbrev cX11_person : ByteArray := prog_1_method_6_code
def yX11_person : MethodName := ⟨RX11, "person", "(II)I"⟩
abbrev cX11_tellPerson : ByteArray := prog_1_method_7_code
def yX11_tellPerson : MethodName := ⟨RX11, "tellPerson", "(II)I"⟩
abbrev cX11_as : ByteArray := prog_1_method_8_code
def yX11_as : MethodName := ⟨RX11, "as", "(II)I"⟩
abbrev cX11_isOfKind : ByteArray := prog_1_method_9_code
def yX11_isOfKind : MethodName := ⟨RX11, "isOfKind", "(LShameYards$Clerk;I)Z"⟩
abbrev cX11_passage : ByteArray := prog_1_method_10_code
def yX11_passage : MethodName := ⟨RX11, "passage", "(II)I"⟩
abbrev cX11_tellPassage : ByteArray := prog_1_method_11_code
def yX11_tellPassage : MethodName := ⟨RX11, "tellPassage", "(II)I"⟩
abbrev cX11_steps : ByteArray := prog_1_method_12_code
def yX11_steps : MethodName := ⟨RX11, "steps", "(III)I"⟩
abbrev cX11_go : ByteArray := prog_1_method_13_code
def yX11_go : MethodName := ⟨RX11, "go", "(III)I"⟩
abbrev cX11_sin : ByteArray := prog_1_method_14_code
def yX11_sin : MethodName := ⟨RX11, "sin", "(I)I"⟩
abbrev cX11_lie : ByteArray := prog_1_method_15_code
def yX11_lie : MethodName := ⟨RX11, "lie", "(I)I"⟩
abbrev cX11_confess : ByteArray := prog_1_method_16_code
def yX11_confess : MethodName := ⟨RX11, "confess", "(I)I"⟩
abbrev cX11_carpet : ByteArray := prog_1_method_17_code
def yX11_carpet : MethodName := ⟨RX11, "carpet", "(II)I"⟩
abbrev cX11_far : ByteArray := prog_1_method_18_code
def yX11_far : MethodName := ⟨RX11, "far", "(IIII)I"⟩
abbrev cX11_send : ByteArray := prog_1_method_19_code
def yX11_send : MethodName := ⟨RX11, "send", "(I)I"⟩
abbrev cX11_pairs : ByteArray := prog_1_method_20_code
def yX11_pairs : MethodName := ⟨RX11, "pairs", "(II)I"⟩
abbrev cX11_meet : ByteArray := prog_1_method_21_code
def yX11_meet : MethodName := ⟨RX11, "meet", "(IIII)J"⟩
abbrev cX11_see : ByteArray := prog_1_method_22_code
def yX11_see : MethodName := ⟨RX11, "see", "(IIII)I"⟩
abbrev cX11_forget : ByteArray := prog_1_method_23_code
def yX11_forget : MethodName := ⟨RX11, "forget", "()I"⟩
abbrev cX11_days : ByteArray := prog_1_method_24_code
def yX11_days : MethodName := ⟨RX11, "days", "(III)I"⟩
abbrev cX11_image : ByteArray := prog_1_method_25_code
def yX11_image : MethodName := ⟨RX11, "image", "()I"⟩
abbrev cX11_restore : ByteArray := prog_1_method_26_code
def yX11_restore : MethodName := ⟨RX11, "restore", "()I"⟩
abbrev cX11_count : ByteArray := prog_1_method_27_code
def yX11_count : MethodName := ⟨RX11, "count", "(I)I"⟩
abbrev cX11_digest : ByteArray := prog_1_method_28_code
def yX11_digest : MethodName := ⟨RX11, "digest", "()J"⟩
abbrev cX11_mixWays : ByteArray := prog_1_method_29_code
def yX11_mixWays : MethodName := ⟨RX11, "mixWays", "(JI)J"⟩
abbrev cX11_mixPassage : ByteArray := prog_1_method_30_code
def yX11_mixPassage : MethodName := ⟨RX11, "mixPassage", "(JI)J"⟩
abbrev cX11_mix : ByteArray := prog_1_method_31_code
def yX11_mix : MethodName := ⟨RX11, "mix", "(JJ)J"⟩
def RX12 : String := "ShameYardsModel"
def TX12 : u_T := fun k => match k with
  | 0 => ("ShameYardsModel", "ministries", "I", false)
  | 1 => ("ShameYardsModel", "rooms", "I", false)
  | 2 => ("ShameYardsModel", "passages", "I", false)
  | 3 => ("ShameYardsModel", "people", "I", false)
  | 4 => ("ShameYardsModel", "oneEnd", "[I", true)
  | 5 => ("ShameYardsModel", "otherEnd", "[I", true)
  | 6 => ("ShameYardsModel", "lengthOf", "[I", true)
  | 7 => ("ShameYardsModel", "kindOf", "[I", true)
  | 8 => ("ShameYardsModel", "deedsOf", "[I", true)
  | 9 => ("ShameYardsModel", "liesOf", "[I", true)
  | 10 => ("ShameYardsModel", "roomOf", "[I", true)
  | 11 => ("ShameYardsModel", "tookOf", "[I", true)
  | 12 => ("ShameYardsModel", "together", "I", false)
  | 13 => ("ShameYardsModel", "asks", "I", false)
  | 14 => ("ShameYardsModel", "seen", "I", false)
  | 15 => ("ShameYardsModel", "seenPerson", "[I", true)
  | 16 => ("ShameYardsModel", "seenPassage", "[I", true)
  | 17 => ("ShameYardsModel", "seenWith", "[I", true)
  | 18 => ("ShameYardsModel", "seenSteps", "[I", true)
  | 19 => ("ShameYardsModel", "pageLength", "I", false)
  | 20 => ("ShameYardsModel", "page", "[B", true)
  | 21 => ("ShameYardsModel", "isWhole", "Z", false)
  | 22 => ("ShameYardsModel", "newPassages", "I", false)
  | 23 => ("ShameYardsModel", "newPeople", "I", false)
  | 24 => ("ShameYardsModel", "farTo", "[I", true)
  | 25 => ("ShameYardsModel", "sent", "[I", true)
  | 26 => ("ShameYardsModel", "bestSent", "[I", true)
  | 27 => ("ShameYardsModel", "farBy", "[I", true)
  | 28 => ("ShameYardsModel", "mate", "[I", true)
  | 29 => ("ShameYardsModel", "bestMate", "[I", true)
  | 30 => ("ShameYardsModel", "likely", "[J", true)
  | 31 => ("ShameYardsModel", "next", "[J", true)
  | 32 => ("ShameYardsModel", "seedNow", "J", false)
  | 33 => ("ShameYardsModel", "savedLies", "[I", true)
  | 34 => ("ShameYardsModel", "savedRoom", "[I", true)
  | 35 => ("ShameYardsModel", "isKept", "Z", false)
  | 36 => ("ShameYardsModel", "keptMinistry", "I", false)
  | 37 => ("ShameYardsModel", "keptTogether", "I", false)
  | 38 => ("ShameYardsModel", "keptSeen", "I", false)
  | 39 => ("ShameYardsModel", "keptLength", "[I", true)
  | 40 => ("ShameYardsModel", "keptDeeds", "[I", true)
  | 41 => ("ShameYardsModel", "keptLies", "[I", true)
  | 42 => ("ShameYardsModel", "keptRoom", "[I", true)
  | 43 => ("ShameYardsModel", "keptTook", "[I", true)
  | 44 => ("ShameYardsModel", "keptPerson", "[I", true)
  | 45 => ("ShameYardsModel", "keptPassage", "[I", true)
  | 46 => ("ShameYardsModel", "keptWith", "[I", true)
  | 47 => ("ShameYardsModel", "keptSteps", "[I", true)
  | _ => ("ShameYardsModel", "h", "J", false)
def tyX12 : Nat → FieldType := fun k => match k with
  | 0 => .int
  | 1 => .int
  | 2 => .int
  | 3 => .int
  | 4 => .array .int
  | 5 => .array .int
  | 6 => .array .int
  | 7 => .array .int
  | 8 => .array .int
  | 9 => .array .int
  | 10 => .array .int
  | 11 => .array .int
  | 12 => .int
  | 13 => .int
  | 14 => .int
  | 15 => .array .int
  | 16 => .array .int
  | 17 => .array .int
  | 18 => .array .int
  | 19 => .int
  | 20 => .array .byte
  | 21 => .boolean
  | 22 => .int
  | 23 => .int
  | 24 => .array .int
  | 25 => .array .int
  | 26 => .array .int
  | 27 => .array .int
  | 28 => .array .int
  | 29 => .array .int
  | 30 => .array .long
  | 31 => .array .long
  | 32 => .long
  | 33 => .array .int
  | 34 => .array .int
  | 35 => .boolean
  | 36 => .int
  | 37 => .int
  | 38 => .int
  | 39 => .array .int
  | 40 => .array .int
  | 41 => .array .int
  | 42 => .array .int
  | 43 => .array .int
  | 44 => .array .int
  | 45 => .array .int
  | 46 => .array .int
  | 47 => .array .int
  | _ => .long
abbrev wsX120 : List Cond := u_ws RX12 TX12 49
theorem nmX12 : ∀ a, a < 49 → ∀ b, b < 49 → a ≠ b → (TX12 a).2.1 ≠ (TX12 b).2.1 := by decide +kernel
theorem tyX12_ok : ∀ k, k < 49 → parseFieldDescriptor (TX12 k).2.2.1 = some (tyX12 k) := by decide +kernel
abbrev cX12_init : ByteArray := prog_14_method_1_code
def yX12_init : MethodName := ⟨RX12, "<init>", "()V"⟩
abbrev cX12_within : ByteArray := prog_14_method_3_code
def yX12_within : MethodName := ⟨RX12, "within", "(III)Z"⟩
abbrev cX12_isIn : ByteArray := prog_14_method_4_code
def yX12_isIn : MethodName := ⟨RX12, "isIn", "(II)Z"⟩
abbrev cX12_divisor : ByteArray := prog_14_method_5_code
def yX12_divisor : MethodName := ⟨RX12, "divisor", "(JJ)J"⟩
abbrev cX12_letter : ByteArray := prog_14_method_6_code
def yX12_letter : MethodName := ⟨RX12, "letter", "(I)I"⟩
abbrev cX12_blank : ByteArray := prog_14_method_7_code
def yX12_blank : MethodName := ⟨RX12, "blank", "()I"⟩
abbrev cX12_kindBy : ByteArray := prog_14_method_8_code
def yX12_kindBy : MethodName := ⟨RX12, "kindBy", "(I)I"⟩
abbrev cX12_at : ByteArray := prog_14_method_9_code
def yX12_at : MethodName := ⟨RX12, "at", "(I)I"⟩
abbrev cX12_isFigure : ByteArray := prog_14_method_10_code
def yX12_isFigure : MethodName := ⟨RX12, "isFigure", "(III)Z"⟩
abbrev cX12_readPassage : ByteArray := prog_14_method_11_code
def yX12_readPassage : MethodName := ⟨RX12, "readPassage", "(II)I"⟩
abbrev cX12_readPerson : ByteArray := prog_14_method_12_code
def yX12_readPerson : MethodName := ⟨RX12, "readPerson", "(I)I"⟩
abbrev cX12_readPeople : ByteArray := prog_14_method_13_code
def yX12_readPeople : MethodName := ⟨RX12, "readPeople", "(I)I"⟩
abbrev cX12_read : ByteArray := prog_14_method_14_code
def yX12_read : MethodName := ⟨RX12, "read", "()I"⟩
abbrev cX12_fault : ByteArray := prog_14_method_15_code
def yX12_fault : MethodName := ⟨RX12, "fault", "()I"⟩
abbrev cX12_ministry : ByteArray := prog_14_method_16_code
def yX12_ministry : MethodName := ⟨RX12, "ministry", "()I"⟩
abbrev cX12_isPerson : ByteArray := prog_14_method_17_code
def yX12_isPerson : MethodName := ⟨RX12, "isPerson", "(I)Z"⟩
abbrev cX12_isPassage : ByteArray := prog_14_method_18_code
def yX12_isPassage : MethodName := ⟨RX12, "isPassage", "(I)Z"⟩
abbrev cX12_isRoom : ByteArray := prog_14_method_19_code
def yX12_isRoom : MethodName := ⟨RX12, "isRoom", "(I)Z"⟩
abbrev cX12_isWith : ByteArray := prog_14_method_20_code
def yX12_isWith : MethodName := ⟨RX12, "isWith", "(II)Z"⟩
abbrev cX12_alone : ByteArray := prog_14_method_21_code
def yX12_alone : MethodName := ⟨RX12, "alone", "(II)I"⟩
abbrev cX12_stepsOf : ByteArray := prog_14_method_22_code
def yX12_stepsOf : MethodName := ⟨RX12, "stepsOf", "(III)I"⟩
abbrev cX12_personNow : ByteArray := prog_14_method_23_code
def yX12_personNow : MethodName := ⟨RX12, "personNow", "(II)I"⟩
abbrev cX12_person : ByteArray := prog_14_method_24_code
def yX12_person : MethodName := ⟨RX12, "person", "(II)I"⟩
abbrev cX12_as : ByteArray := prog_14_method_25_code
def yX12_as : MethodName := ⟨RX12, "as", "(II)I"⟩
abbrev cX12_passageNow : ByteArray := prog_14_method_26_code
def yX12_passageNow : MethodName := ⟨RX12, "passageNow", "(II)I"⟩
abbrev cX12_passage : ByteArray := prog_14_method_27_code
def yX12_passage : MethodName := ⟨RX12, "passage", "(II)I"⟩
abbrev cX12_steps : ByteArray := prog_14_method_28_code
def yX12_steps : MethodName := ⟨RX12, "steps", "(III)I"⟩
abbrev cX12_endsAt : ByteArray := prog_14_method_29_code
def yX12_endsAt : MethodName := ⟨RX12, "endsAt", "(II)Z"⟩
abbrev cX12_beyond : ByteArray := prog_14_method_30_code
def yX12_beyond : MethodName := ⟨RX12, "beyond", "(II)I"⟩
abbrev cX12_isTired : ByteArray := prog_14_method_31_code
def yX12_isTired : MethodName := ⟨RX12, "isTired", "(I)Z"⟩
abbrev cX12_go : ByteArray := prog_14_method_32_code
def yX12_go : MethodName := ⟨RX12, "go", "(III)I"⟩
abbrev cX12_sin : ByteArray := prog_14_method_33_code
def yX12_sin : MethodName := ⟨RX12, "sin", "(I)I"⟩
abbrev cX12_lie : ByteArray := prog_14_method_34_code
def yX12_lie : MethodName := ⟨RX12, "lie", "(I)I"⟩
abbrev cX12_confess : ByteArray := prog_14_method_35_code
def yX12_confess : MethodName := ⟨RX12, "confess", "(I)I"⟩
abbrev cX12_carpet : ByteArray := prog_14_method_36_code
def yX12_carpet : MethodName := ⟨RX12, "carpet", "(II)I"⟩
abbrev cX12_layFar : ByteArray := prog_14_method_37_code
def yX12_layFar : MethodName := ⟨RX12, "layFar", "(II)V"⟩
abbrev cX12_farFrom : ByteArray := prog_14_method_38_code
def yX12_farFrom : MethodName := ⟨RX12, "farFrom", "(III)I"⟩
abbrev cX12_nextPassage : ByteArray := prog_14_method_39_code
def yX12_nextPassage : MethodName := ⟨RX12, "nextPassage", "(II)I"⟩
abbrev cX12_farNow : ByteArray := prog_14_method_40_code
def yX12_farNow : MethodName := ⟨RX12, "farNow", "(IIII)I"⟩
abbrev cX12_far : ByteArray := prog_14_method_41_code
def yX12_far : MethodName := ⟨RX12, "far", "(IIII)I"⟩
abbrev cX12_sentSteps : ByteArray := prog_14_method_42_code
def yX12_sentSteps : MethodName := ⟨RX12, "sentSteps", "()I"⟩
abbrev cX12_nextSent : ByteArray := prog_14_method_43_code
def yX12_nextSent : MethodName := ⟨RX12, "nextSent", "()Z"⟩
abbrev cX12_sendNow : ByteArray := prog_14_method_44_code
def yX12_sendNow : MethodName := ⟨RX12, "sendNow", "(I)I"⟩
abbrev cX12_send : ByteArray := prog_14_method_45_code
def yX12_send : MethodName := ⟨RX12, "send", "(I)I"⟩
abbrev cX12_arePairs : ByteArray := prog_14_method_46_code
def yX12_arePairs : MethodName := ⟨RX12, "arePairs", "()Z"⟩
abbrev cX12_nextMates : ByteArray := prog_14_method_47_code
def yX12_nextMates : MethodName := ⟨RX12, "nextMates", "()Z"⟩
abbrev cX12_mostSteps : ByteArray := prog_14_method_48_code
def yX12_mostSteps : MethodName := ⟨RX12, "mostSteps", "(I)I"⟩
abbrev cX12_goTogether : ByteArray := prog_14_method_49_code
def yX12_goTogether : MethodName := ⟨RX12, "goTogether", "()I"⟩
abbrev cX12_pairsNow : ByteArray := prog_14_method_50_code
def yX12_pairsNow : MethodName := ⟨RX12, "pairsNow", "(II)I"⟩
abbrev cX12_pairs : ByteArray := prog_14_method_51_code
def yX12_pairs : MethodName := ⟨RX12, "pairs", "(II)I"⟩
abbrev cX12_ending : ByteArray := prog_14_method_52_code
def yX12_ending : MethodName := ⟨RX12, "ending", "(I)I"⟩
abbrev cX12_turn : ByteArray := prog_14_method_53_code
def yX12_turn : MethodName := ⟨RX12, "turn", "(I)V"⟩
abbrev cX12_meetNow : ByteArray := prog_14_method_54_code
def yX12_meetNow : MethodName := ⟨RX12, "meetNow", "(IIII)J"⟩
abbrev cX12_meet : ByteArray := prog_14_method_55_code
def yX12_meet : MethodName := ⟨RX12, "meet", "(IIII)J"⟩
abbrev cX12_see : ByteArray := prog_14_method_56_code
def yX12_see : MethodName := ⟨RX12, "see", "(IIII)I"⟩
abbrev cX12_forget : ByteArray := prog_14_method_57_code
def yX12_forget : MethodName := ⟨RX12, "forget", "()I"⟩
abbrev cX12_stepsWith : ByteArray := prog_14_method_58_code
def yX12_stepsWith : MethodName := ⟨RX12, "stepsWith", "(IIII)I"⟩
abbrev cX12_liesBits : ByteArray := prog_14_method_59_code
def yX12_liesBits : MethodName := ⟨RX12, "liesBits", "(I)I"⟩
abbrev cX12_worstBy : ByteArray := prog_14_method_60_code
def yX12_worstBy : MethodName := ⟨RX12, "worstBy", "(IIII)I"⟩
abbrev cX12_askOf : ByteArray := prog_14_method_61_code
def yX12_askOf : MethodName := ⟨RX12, "askOf", "(I)I"⟩
abbrev cX12_draw : ByteArray := prog_14_method_62_code
def yX12_draw : MethodName := ⟨RX12, "draw", "(I)I"⟩
abbrev cX12_passageAt : ByteArray := prog_14_method_63_code
def yX12_passageAt : MethodName := ⟨RX12, "passageAt", "(II)I"⟩
abbrev cX12_inRoom : ByteArray := prog_14_method_64_code
def yX12_inRoom : MethodName := ⟨RX12, "inRoom", "(I)I"⟩
abbrev cX12_daysNow : ByteArray := prog_14_method_65_code
def yX12_daysNow : MethodName := ⟨RX12, "daysNow", "(III)I"⟩
abbrev cX12_days : ByteArray := prog_14_method_66_code
def yX12_days : MethodName := ⟨RX12, "days", "(III)I"⟩
abbrev cX12_tookAll : ByteArray := prog_14_method_67_code
def yX12_tookAll : MethodName := ⟨RX12, "tookAll", "()I"⟩
abbrev cX12_image : ByteArray := prog_14_method_68_code
def yX12_image : MethodName := ⟨RX12, "image", "()I"⟩
abbrev cX12_restore : ByteArray := prog_14_method_69_code
def yX12_restore : MethodName := ⟨RX12, "restore", "()I"⟩
abbrev cX12_sumOf : ByteArray := prog_14_method_70_code
def yX12_sumOf : MethodName := ⟨RX12, "sumOf", "(Z)I"⟩
abbrev cX12_howMany : ByteArray := prog_14_method_71_code
def yX12_howMany : MethodName := ⟨RX12, "howMany", "(I)I"⟩
abbrev cX12_count : ByteArray := prog_14_method_72_code
def yX12_count : MethodName := ⟨RX12, "count", "(I)I"⟩
abbrev cX12_mix : ByteArray := prog_14_method_73_code
def yX12_mix : MethodName := ⟨RX12, "mix", "(J)V"⟩
abbrev cX12_mixPerson : ByteArray := prog_14_method_74_code
def yX12_mixPerson : MethodName := ⟨RX12, "mixPerson", "(I)V"⟩
abbrev cX12_digest : ByteArray := prog_14_method_75_code
def yX12_digest : MethodName := ⟨RX12, "digest", "()J"⟩
def RJx145de : String := "java/io/Serializable"
def TJx145de : u_T := fun k => match k with
  | _ => ("", "", "", false)
def tyJx145de : Nat → FieldType := fun k => match k with
  | _ => .int
abbrev wsJx145de0 : List Cond := u_ws RJx145de TJx145de 0
theorem nmJx145de : ∀ a, a < 0 → ∀ b, b < 0 → a ≠ b → (TJx145de a).2.1 ≠ (TJx145de b).2.1 := by decide +kernel
theorem tyJx145de_ok : ∀ k, k < 0 → parseFieldDescriptor (TJx145de k).2.2.1 = some (tyJx145de k) := by decide +kernel
def RJx9f9b0 : String := "java/lang/CharSequence"
def TJx9f9b0 : u_T := fun k => match k with
  | _ => ("", "", "", false)
def tyJx9f9b0 : Nat → FieldType := fun k => match k with
  | _ => .int
abbrev wsJx9f9b00 : List Cond := u_ws RJx9f9b0 TJx9f9b0 0
theorem nmJx9f9b0 : ∀ a, a < 0 → ∀ b, b < 0 → a ≠ b → (TJx9f9b0 a).2.1 ≠ (TJx9f9b0 b).2.1 := by decide +kernel
theorem tyJx9f9b0_ok : ∀ k, k < 0 → parseFieldDescriptor (TJx9f9b0 k).2.2.1 = some (tyJx9f9b0 k) := by decide +kernel
def RJ11 : String := "java/lang/Character"
def TJ11 : u_T := fun k => match k with
  | _ => ("", "", "", false)
def tyJ11 : Nat → FieldType := fun k => match k with
  | _ => .int
abbrev wsJ110 : List Cond := u_ws RJ11 TJ11 0
theorem nmJ11 : ∀ a, a < 0 → ∀ b, b < 0 → a ≠ b → (TJ11 a).2.1 ≠ (TJ11 b).2.1 := by decide +kernel
theorem tyJ11_ok : ∀ k, k < 0 → parseFieldDescriptor (TJ11 k).2.2.1 = some (tyJ11 k) := by decide +kernel
abbrev cJ11_isValidCodePoint_9a6ad : ByteArray := prog_15_method_11_code
def yJ11_isValidCodePoint_9a6ad : MethodName := ⟨RJ11, "isValidCodePoint", "(I)Z"⟩
abbrev cJ11_highSurrogate_5068e : ByteArray := prog_15_method_28_code
def yJ11_highSurrogate_5068e : MethodName := ⟨RJ11, "highSurrogate", "(I)C"⟩
abbrev cJ11_lowSurrogate_5068e : ByteArray := prog_15_method_29_code
def yJ11_lowSurrogate_5068e : MethodName := ⟨RJ11, "lowSurrogate", "(I)C"⟩
def RJxb160c : String := "java/lang/Comparable"
def TJxb160c : u_T := fun k => match k with
  | _ => ("", "", "", false)
def tyJxb160c : Nat → FieldType := fun k => match k with
  | _ => .int
abbrev wsJxb160c0 : List Cond := u_ws RJxb160c TJxb160c 0
theorem nmJxb160c : ∀ a, a < 0 → ∀ b, b < 0 → a ≠ b → (TJxb160c a).2.1 ≠ (TJxb160c b).2.1 := by decide +kernel
theorem tyJxb160c_ok : ∀ k, k < 0 → parseFieldDescriptor (TJxb160c k).2.2.1 = some (tyJxb160c k) := by decide +kernel
def RJ9 : String := "java/lang/Math"
def TJ9 : u_T := fun k => match k with
  | _ => ("", "", "", false)
def tyJ9 : Nat → FieldType := fun k => match k with
  | _ => .int
abbrev wsJ90 : List Cond := u_ws RJ9 TJ9 0
theorem nmJ9 : ∀ a, a < 0 → ∀ b, b < 0 → a ≠ b → (TJ9 a).2.1 ≠ (TJ9 b).2.1 := by decide +kernel
theorem tyJ9_ok : ∀ k, k < 0 → parseFieldDescriptor (TJ9 k).2.2.1 = some (tyJ9 k) := by decide +kernel
abbrev cJ9_max_7cf53 : ByteArray := prog_16_method_65_code
def yJ9_max_7cf53 : MethodName := ⟨RJ9, "max", "(II)I"⟩
abbrev cJ9_min_7cf53 : ByteArray := prog_16_method_69_code
def yJ9_min_7cf53 : MethodName := ⟨RJ9, "min", "(II)I"⟩
def RJ0 : String := "java/lang/String"
def TJ0 : u_T := fun k => match k with
  | _ => ("", "", "", false)
def tyJ0 : Nat → FieldType := fun k => match k with
  | _ => .int
abbrev wsJ00 : List Cond := u_ws RJ0 TJ0 0
theorem nmJ0 : ∀ a, a < 0 → ∀ b, b < 0 → a ≠ b → (TJ0 a).2.1 ≠ (TJ0 b).2.1 := by decide +kernel
theorem tyJ0_ok : ∀ k, k < 0 → parseFieldDescriptor (TJ0 k).2.2.1 = some (tyJ0 k) := by decide +kernel
abbrev cJ0_length_8abf5 : ByteArray := prog_17_method_54_code
def yJ0_length_8abf5 : MethodName := ⟨RJ0, "length", "()I"⟩
abbrev cJ0_indexOf_0f7a4 : ByteArray := prog_17_method_79_code
def yJ0_indexOf_0f7a4 : MethodName := ⟨RJ0, "indexOf", "(I)I"⟩
abbrev cJ0_indexOf_7cf53 : ByteArray := prog_17_method_80_code
def yJ0_indexOf_7cf53 : MethodName := ⟨RJ0, "indexOf", "(II)I"⟩
abbrev cJ0_coder_7d493 : ByteArray := prog_17_method_152_code
def yJ0_coder_7d493 : MethodName := ⟨RJ0, "coder", "()B"⟩
abbrev cJ0_isLatin1_aae02 : ByteArray := prog_17_method_154_code
def yJ0_isLatin1_aae02 : MethodName := ⟨RJ0, "isLatin1", "()Z"⟩
abbrev cJ0_checkBoundsBeginEnd_23922 : ByteArray := prog_17_method_158_code
def yJ0_checkBoundsBeginEnd_23922 : MethodName := ⟨RJ0, "checkBoundsBeginEnd", "(III)V"⟩
def RJ1 : String := "java/lang/StringLatin1"
def TJ1 : u_T := fun k => match k with
  | _ => ("", "", "", false)
def tyJ1 : Nat → FieldType := fun k => match k with
  | _ => .int
abbrev wsJ10 : List Cond := u_ws RJ1 TJ1 0
theorem nmJ1 : ∀ a, a < 0 → ∀ b, b < 0 → a ≠ b → (TJ1 a).2.1 ≠ (TJ1 b).2.1 := by decide +kernel
theorem tyJ1_ok : ∀ k, k < 0 → parseFieldDescriptor (TJ1 k).2.2.1 = some (tyJ1 k) := by decide +kernel
abbrev cJ1_canEncode_9a6ad : ByteArray := prog_18_method_4_code
def yJ1_canEncode_9a6ad : MethodName := ⟨RJ1, "canEncode", "(I)Z"⟩
abbrev cJ1_indexOf_4cfef : ByteArray := prog_18_method_22_code
def yJ1_indexOf_4cfef : MethodName := ⟨RJ1, "indexOf", "([BIII)I"⟩
abbrev cJ1_indexOfChar_4cfef : ByteArray := prog_18_method_23_code
def yJ1_indexOfChar_4cfef : MethodName := ⟨RJ1, "indexOfChar", "([BIII)I"⟩
def RJ2 : String := "java/lang/StringUTF16"
def TJ2 : u_T := fun k => match k with
  | _ => ("", "", "", false)
def tyJ2 : Nat → FieldType := fun k => match k with
  | _ => .int
abbrev wsJ20 : List Cond := u_ws RJ2 TJ2 0
theorem nmJ2 : ∀ a, a < 0 → ∀ b, b < 0 → a ≠ b → (TJ2 a).2.1 ≠ (TJ2 b).2.1 := by decide +kernel
theorem tyJ2_ok : ∀ k, k < 0 → parseFieldDescriptor (TJ2 k).2.2.1 = some (tyJ2 k) := by decide +kernel
abbrev cJ2_getChar_3b067 : ByteArray := prog_19_method_5_code
def yJ2_getChar_3b067 : MethodName := ⟨RJ2, "getChar", "([BI)C"⟩
abbrev cJ2_length_9d52b : ByteArray := prog_19_method_6_code
def yJ2_length_9d52b : MethodName := ⟨RJ2, "length", "([B)I"⟩
abbrev cJ2_indexOf_4cfef : ByteArray := prog_19_method_40_code
def yJ2_indexOf_4cfef : MethodName := ⟨RJ2, "indexOf", "([BIII)I"⟩
abbrev cJ2_indexOfChar_4cfef : ByteArray := prog_19_method_47_code
def yJ2_indexOfChar_4cfef : MethodName := ⟨RJ2, "indexOfChar", "([BIII)I"⟩
abbrev cJ2_indexOfCharUnsafe_4cfef : ByteArray := prog_19_method_48_code
def yJ2_indexOfCharUnsafe_4cfef : MethodName := ⟨RJ2, "indexOfCharUnsafe", "([BIII)I"⟩
abbrev cJ2_indexOfSupplementary_4cfef : ByteArray := prog_19_method_49_code
def yJ2_indexOfSupplementary_4cfef : MethodName := ⟨RJ2, "indexOfSupplementary", "([BIII)I"⟩
abbrev cJ2_checkBoundsBeginEnd_d044e : ByteArray := prog_19_method_93_code
def yJ2_checkBoundsBeginEnd_d044e : MethodName := ⟨RJ2, "checkBoundsBeginEnd", "(II[B)V"⟩
def RJ10 : String := "java/lang/System"
def TJ10 : u_T := fun k => match k with
  | _ => ("", "", "", false)
def tyJ10 : Nat → FieldType := fun k => match k with
  | _ => .int
abbrev wsJ100 : List Cond := u_ws RJ10 TJ10 0
theorem nmJ10 : ∀ a, a < 0 → ∀ b, b < 0 → a ≠ b → (TJ10 a).2.1 ≠ (TJ10 b).2.1 := by decide +kernel
theorem tyJ10_ok : ∀ k, k < 0 → parseFieldDescriptor (TJ10 k).2.2.1 = some (tyJ10 k) := by decide +kernel
def RJxfd54e : String := "java/lang/constant/Constable"
def TJxfd54e : u_T := fun k => match k with
  | _ => ("", "", "", false)
def tyJxfd54e : Nat → FieldType := fun k => match k with
  | _ => .int
abbrev wsJxfd54e0 : List Cond := u_ws RJxfd54e TJxfd54e 0
theorem nmJxfd54e : ∀ a, a < 0 → ∀ b, b < 0 → a ≠ b → (TJxfd54e a).2.1 ≠ (TJxfd54e b).2.1 := by decide +kernel
theorem tyJxfd54e_ok : ∀ k, k < 0 → parseFieldDescriptor (TJxfd54e k).2.2.1 = some (tyJxfd54e k) := by decide +kernel
def RJx3cf43 : String := "java/lang/constant/ConstantDesc"
def TJx3cf43 : u_T := fun k => match k with
  | _ => ("", "", "", false)
def tyJx3cf43 : Nat → FieldType := fun k => match k with
  | _ => .int
abbrev wsJx3cf430 : List Cond := u_ws RJx3cf43 TJx3cf43 0
theorem nmJx3cf43 : ∀ a, a < 0 → ∀ b, b < 0 → a ≠ b → (TJx3cf43 a).2.1 ≠ (TJx3cf43 b).2.1 := by decide +kernel
theorem tyJx3cf43_ok : ∀ k, k < 0 → parseFieldDescriptor (TJx3cf43 k).2.2.1 = some (tyJx3cf43 k) := by decide +kernel
def RJ7 : String := "java/util/Arrays"
def TJ7 : u_T := fun k => match k with
  | _ => ("", "", "", false)
def tyJ7 : Nat → FieldType := fun k => match k with
  | _ => .int
abbrev wsJ70 : List Cond := u_ws RJ7 TJ7 0
theorem nmJ7 : ∀ a, a < 0 → ∀ b, b < 0 → a ≠ b → (TJ7 a).2.1 ≠ (TJ7 b).2.1 := by decide +kernel
theorem tyJ7_ok : ∀ k, k < 0 → parseFieldDescriptor (TJ7 k).2.2.1 = some (tyJ7 k) := by decide +kernel
abbrev cJ7_fill_d0a16 : ByteArray := prog_21_method_101_code
def yJ7_fill_d0a16 : MethodName := ⟨RJ7, "fill", "([JJ)V"⟩
abbrev cJ7_fill_53178 : ByteArray := prog_21_method_103_code
def yJ7_fill_53178 : MethodName := ⟨RJ7, "fill", "([II)V"⟩
def RJ3 : String := "jdk/internal/util/Preconditions"
def TJ3 : u_T := fun k => match k with
  | _ => ("", "", "", false)
def tyJ3 : Nat → FieldType := fun k => match k with
  | _ => .int
abbrev wsJ30 : List Cond := u_ws RJ3 TJ3 0
theorem nmJ3 : ∀ a, a < 0 → ∀ b, b < 0 → a ≠ b → (TJ3 a).2.1 ≠ (TJ3 b).2.1 := by decide +kernel
theorem tyJ3_ok : ∀ k, k < 0 → parseFieldDescriptor (TJ3 k).2.2.1 = some (tyJ3 k) := by decide +kernel
abbrev cJ3_checkFromToIndex_8c36e : ByteArray := prog_22_method_12_code
def yJ3_checkFromToIndex_8c36e : MethodName := ⟨RJ3, "checkFromToIndex", "(IIILjava/util/function/BiFunction;)I"⟩
def RL : String := "ShameYardsLaw"
abbrev cL_law : ByteArray := code
def yL_law : MethodName := ⟨RL, "law", "([I)Z"⟩
def wsX1_init : List Cond := .code yX1_init cX1_init 1 none :: ([.methodLink RX1 1 objectInit, .instanceMethod objectInit, .code objectInit ⟨#[0xb1]⟩ 1 none])
def wsX0_init : List Cond := .code yX0_init cX0_init 1 none :: ([.instanceMethod yX1_init, .initialized RX1, .code yX1_init cX1_init 1 none, .methodLink RX1 1 objectInit, .instanceMethod objectInit, .code objectInit ⟨#[0xb1]⟩ 1 none])
def wsX1_yards : List Cond := .code yX1_yards cX1_yards 4 (some .int) :: ([])
def wsX0_yards : List Cond := .code yX0_yards cX0_yards 4 (some .int) :: ([.methodLink RX0 7 yX1_yards, .sameMethod "ShameYards$Clerk" "ShameYards$Clerk" "yards" "(III)I", .superclass RX0 RX1, .instanceMethod yX1_yards, .initialized RX1, .code yX1_yards cX1_yards 4 (some .int)])
def wsX4_init : List Cond := .code yX4_init cX4_init 1 none :: ([.instanceMethod yX1_init, .initialized RX1, .code yX1_init cX1_init 1 none, .methodLink RX1 1 objectInit, .instanceMethod objectInit, .code objectInit ⟨#[0xb1]⟩ 1 none])
def wsX10_init : List Cond := .code yX10_init cX10_init 1 none :: ([.instanceMethod yX1_init, .initialized RX1, .code yX1_init cX1_init 1 none, .methodLink RX1 1 objectInit, .instanceMethod objectInit, .code objectInit ⟨#[0xb1]⟩ 1 none])
def wsX3_init : List Cond := .code yX3_init cX3_init 1 none :: ([.instanceMethod yX4_init, .initialized RX4, .code yX4_init cX4_init 1 none, .instanceMethod yX1_init, .initialized RX1, .code yX1_init cX1_init 1 none, .methodLink RX1 1 objectInit, .instanceMethod objectInit, .code objectInit ⟨#[0xb1]⟩ 1 none])
def wsX2_init_r1 : List Cond := [Cond.methodLink RX2 3 objectInit, Cond.instanceMethod objectInit, Cond.code objectInit ⟨#[0xb1]⟩ 1 none, Cond.classLink RX2 9 RX1, Cond.instantiable RX1 0, Cond.initialized RX1, Cond.classLink RX2 12 RX0, Cond.instantiable RX0 0, Cond.initialized RX0, Cond.classLink RX2 15 RX4, Cond.instantiable RX4 0, Cond.initialized RX4, Cond.classLink RX2 18 RX10, Cond.instantiable RX10 0, Cond.initialized RX10, Cond.classLink RX2 21 RX3, Cond.instantiable RX3 0, Cond.initialized RX3, Cond.fieldLink RX2 24 "ShameYards$House" "clerks" "[LShameYards$Clerk;", Cond.arrayClass .int, Cond.fieldLink RX2 30 "ShameYards$House" "oneEnd" "[I", Cond.fieldLink RX2 34 "ShameYards$House" "otherEnd" "[I", Cond.fieldLink RX2 37 "ShameYards$House" "lengths" "[I", Cond.fieldLink RX2 40 "ShameYards$House" "kinds" "[I"]
def wsX2_init_r2 : List Cond := [Cond.fieldLink RX2 43 "ShameYards$House" "deeds" "[I", Cond.fieldLink RX2 46 "ShameYards$House" "lies" "[I", Cond.fieldLink RX2 49 "ShameYards$House" "places" "[I", Cond.fieldLink RX2 52 "ShameYards$House" "taken" "[I", Cond.fieldLink RX2 55 "ShameYards$House" "seenPerson" "[I", Cond.fieldLink RX2 58 "ShameYards$House" "seenPassage" "[I", Cond.fieldLink RX2 61 "ShameYards$House" "seenWith" "[I", Cond.fieldLink RX2 64 "ShameYards$House" "seenSteps" "[I", Cond.instanceMethod yX1_init, Cond.code yX1_init cX1_init 1 none, Cond.methodLink RX1 1 objectInit, Cond.instanceMethod yX0_init, Cond.code yX0_init cX0_init 1 none, Cond.instanceMethod yX4_init, Cond.code yX4_init cX4_init 1 none, Cond.instanceMethod yX10_init, Cond.code yX10_init cX10_init 1 none, Cond.instanceMethod yX3_init, Cond.code yX3_init cX3_init 1 none]
def wsX2_init : List Cond := .code yX2_init cX2_init 1 none :: ((wsX2_init_r1 ++ wsX2_init_r2) ++ wsX10 ++ wsX00 ++ wsX40 ++ wsX100 ++ wsX30 ++ wsX20)
def wsX5_border : List Cond := .code yX5_border cX5_border 2 (some .int) :: ([.fieldLink RX5 15 "ShameYards$Page" "size" "I", .fieldLink RX5 9 "ShameYards$Page" "codes" "[I"] ++ wsX50)
def wsX5_codeAt : List Cond := .code yX5_codeAt cX5_codeAt 2 (some .int) :: ([.fieldLink RX5 15 "ShameYards$Page" "size" "I", .fieldLink RX5 9 "ShameYards$Page" "codes" "[I"] ++ wsX50)
def wsX5_digitAt : List Cond := .code yX5_digitAt cX5_digitAt 2 (some .int) :: ([.methodLink RX5 19 yX5_codeAt, .instanceMethod yX5_codeAt, .selects RX5 yX5_codeAt yX5_codeAt, .initialized RX5, .code yX5_codeAt cX5_codeAt 2 (some .int), .fieldLink RX5 15 "ShameYards$Page" "size" "I", .fieldLink RX5 9 "ShameYards$Page" "codes" "[I"] ++ wsX50)
def wsJ0_isLatin1_aae02 : List Cond := .code yJ0_isLatin1_aae02 cJ0_isLatin1_aae02 1 (some .boolean) :: ([.fieldLink RJ0 38 "java/lang/String" "COMPACT_STRINGS" "Z", .fieldLink RJ0 15 "java/lang/String" "coder" "B"])
def wsJ0_coder_7d493 : List Cond := .code yJ0_coder_7d493 cJ0_coder_7d493 1 (some .byte) :: ([.fieldLink RJ0 38 "java/lang/String" "COMPACT_STRINGS" "Z", .fieldLink RJ0 15 "java/lang/String" "coder" "B"])
def wsJ0_length_8abf5 : List Cond := .code yJ0_length_8abf5 cJ0_length_8abf5 1 (some .int) :: ([.fieldLink RJ0 9 "java/lang/String" "value" "[B", .methodLink RJ0 335 yJ0_coder_7d493, .instanceMethod yJ0_coder_7d493, .selects RJ0 yJ0_coder_7d493 yJ0_coder_7d493, .initialized RJ0, .code yJ0_coder_7d493 cJ0_coder_7d493 1 (some .byte), .fieldLink RJ0 38 "java/lang/String" "COMPACT_STRINGS" "Z", .fieldLink RJ0 15 "java/lang/String" "coder" "B"])
def wsJ1_canEncode_9a6ad : List Cond := .code yJ1_canEncode_9a6ad cJ1_canEncode_9a6ad 1 (some .boolean) :: ([])
def wsJ1_indexOfChar_4cfef : List Cond := .code yJ1_indexOfChar_4cfef cJ1_indexOfChar_4cfef 6 (some .int) :: ([])
def wsJ1_indexOf_4cfef : List Cond := .code yJ1_indexOf_4cfef cJ1_indexOf_4cfef 4 (some .int) :: ([.methodLink RJ1 92 Lib.Math.max.name, .static Lib.Math.max.name, .initialized "java/lang/Math", .code Lib.Math.max.name Lib.Math.max.code 2 (some .int), .methodLink RJ1 38 Lib.Math.min.name, .static Lib.Math.min.name, .code Lib.Math.min.name Lib.Math.min.code 2 (some .int), .methodLink RJ1 88 yJ1_canEncode_9a6ad, .static yJ1_canEncode_9a6ad, .initialized RJ1, .code yJ1_canEncode_9a6ad cJ1_canEncode_9a6ad 1 (some .boolean), .methodLink RJ1 95 yJ1_indexOfChar_4cfef, .static yJ1_indexOfChar_4cfef, .code yJ1_indexOfChar_4cfef cJ1_indexOfChar_4cfef 6 (some .int)])
def wsJ2_length_9d52b : List Cond := .code yJ2_length_9d52b cJ2_length_9d52b 1 (some .int) :: ([])
def wsJ3_checkFromToIndex_8c36e : List Cond := .code yJ3_checkFromToIndex_8c36e cJ3_checkFromToIndex_8c36e 4 (some .int) :: ([])
def wsJ0_checkBoundsBeginEnd_23922 : List Cond := .code yJ0_checkBoundsBeginEnd_23922 cJ0_checkBoundsBeginEnd_23922 3 none :: ([.fieldLink RJ0 1053 "jdk/internal/util/Preconditions" "SIOOBE_FORMATTER" "Ljava/util/function/BiFunction;", .methodLink RJ0 1062 yJ3_checkFromToIndex_8c36e, .static yJ3_checkFromToIndex_8c36e, .initialized RJ3, .code yJ3_checkFromToIndex_8c36e cJ3_checkFromToIndex_8c36e 4 (some .int)])
def wsJ2_checkBoundsBeginEnd_d044e : List Cond := .code yJ2_checkBoundsBeginEnd_d044e cJ2_checkBoundsBeginEnd_d044e 3 none :: ([.methodLink RJ2 48 yJ2_length_9d52b, .static yJ2_length_9d52b, .initialized RJ2, .code yJ2_length_9d52b cJ2_length_9d52b 1 (some .int), .methodLink RJ2 241 yJ0_checkBoundsBeginEnd_23922, .static yJ0_checkBoundsBeginEnd_23922, .initialized RJ0, .code yJ0_checkBoundsBeginEnd_23922 cJ0_checkBoundsBeginEnd_23922 3 none, .fieldLink RJ0 1053 "jdk/internal/util/Preconditions" "SIOOBE_FORMATTER" "Ljava/util/function/BiFunction;", .methodLink RJ0 1062 yJ3_checkFromToIndex_8c36e, .static yJ3_checkFromToIndex_8c36e, .initialized RJ3, .code yJ3_checkFromToIndex_8c36e cJ3_checkFromToIndex_8c36e 4 (some .int)])
def wsJ2_getChar_3b067 : List Cond := .code yJ2_getChar_3b067 cJ2_getChar_3b067 2 (some .char) :: ([.fieldLink RJ2 44 "java/lang/StringUTF16" "$assertionsDisabled" "Z", .fieldLink RJ2 59 "java/lang/StringUTF16" "HI_BYTE_SHIFT" "I", .fieldLink RJ2 63 "java/lang/StringUTF16" "LO_BYTE_SHIFT" "I", .methodLink RJ2 48 yJ2_length_9d52b, .static yJ2_length_9d52b, .initialized RJ2, .code yJ2_length_9d52b cJ2_length_9d52b 1 (some .int)])
def wsJ2_indexOfCharUnsafe_4cfef : List Cond := .code yJ2_indexOfCharUnsafe_4cfef cJ2_indexOfCharUnsafe_4cfef 5 (some .int) :: ([.methodLink RJ2 71 yJ2_getChar_3b067, .static yJ2_getChar_3b067, .initialized RJ2, .code yJ2_getChar_3b067 cJ2_getChar_3b067 2 (some .char), .fieldLink RJ2 44 "java/lang/StringUTF16" "$assertionsDisabled" "Z", .fieldLink RJ2 59 "java/lang/StringUTF16" "HI_BYTE_SHIFT" "I", .fieldLink RJ2 63 "java/lang/StringUTF16" "LO_BYTE_SHIFT" "I", .methodLink RJ2 48 yJ2_length_9d52b, .static yJ2_length_9d52b, .code yJ2_length_9d52b cJ2_length_9d52b 1 (some .int)])
def wsJ2_indexOfChar_4cfef_r1 : List Cond := [Cond.methodLink RJ2 96 yJ2_checkBoundsBeginEnd_d044e, Cond.static yJ2_checkBoundsBeginEnd_d044e, Cond.initialized RJ2, Cond.code yJ2_checkBoundsBeginEnd_d044e cJ2_checkBoundsBeginEnd_d044e 3 none, Cond.methodLink RJ2 48 yJ2_length_9d52b, Cond.static yJ2_length_9d52b, Cond.code yJ2_length_9d52b cJ2_length_9d52b 1 (some .int), Cond.methodLink RJ2 241 yJ0_checkBoundsBeginEnd_23922, Cond.static yJ0_checkBoundsBeginEnd_23922, Cond.initialized RJ0, Cond.code yJ0_checkBoundsBeginEnd_23922 cJ0_checkBoundsBeginEnd_23922 3 none, Cond.fieldLink RJ0 1053 "jdk/internal/util/Preconditions" "SIOOBE_FORMATTER" "Ljava/util/function/BiFunction;", Cond.methodLink RJ0 1062 yJ3_checkFromToIndex_8c36e, Cond.static yJ3_checkFromToIndex_8c36e, Cond.initialized RJ3, Cond.code yJ3_checkFromToIndex_8c36e cJ3_checkFromToIndex_8c36e 4 (some .int), Cond.methodLink RJ2 244 yJ2_indexOfCharUnsafe_4cfef, Cond.static yJ2_indexOfCharUnsafe_4cfef, Cond.code yJ2_indexOfCharUnsafe_4cfef cJ2_indexOfCharUnsafe_4cfef 5 (some .int), Cond.methodLink RJ2 71 yJ2_getChar_3b067, Cond.static yJ2_getChar_3b067, Cond.code yJ2_getChar_3b067 cJ2_getChar_3b067 2 (some .char), Cond.fieldLink RJ2 44 "java/lang/StringUTF16" "$assertionsDisabled" "Z", Cond.fieldLink RJ2 59 "java/lang/StringUTF16" "HI_BYTE_SHIFT" "I"]
def wsJ2_indexOfChar_4cfef_r2 : List Cond := [Cond.fieldLink RJ2 63 "java/lang/StringUTF16" "LO_BYTE_SHIFT" "I"]
def wsJ2_indexOfChar_4cfef : List Cond := .code yJ2_indexOfChar_4cfef cJ2_indexOfChar_4cfef 4 (some .int) :: ((wsJ2_indexOfChar_4cfef_r1 ++ wsJ2_indexOfChar_4cfef_r2))
def wsJ11_isValidCodePoint_9a6ad : List Cond := .code yJ11_isValidCodePoint_9a6ad cJ11_isValidCodePoint_9a6ad 2 (some .boolean) :: ([])
def wsJ11_highSurrogate_5068e : List Cond := .code yJ11_highSurrogate_5068e cJ11_highSurrogate_5068e 1 (some .char) :: ([.constant RJ11 110 (55232)])
def wsJ11_lowSurrogate_5068e : List Cond := .code yJ11_lowSurrogate_5068e cJ11_lowSurrogate_5068e 1 (some .char) :: ([.constant RJ11 76 (56320)])
def wsJ2_indexOfSupplementary_4cfef_r1 : List Cond := [Cond.methodLink RJ2 164 yJ11_isValidCodePoint_9a6ad, Cond.static yJ11_isValidCodePoint_9a6ad, Cond.initialized RJ11, Cond.code yJ11_isValidCodePoint_9a6ad cJ11_isValidCodePoint_9a6ad 2 (some .boolean), Cond.methodLink RJ2 157 yJ11_highSurrogate_5068e, Cond.static yJ11_highSurrogate_5068e, Cond.code yJ11_highSurrogate_5068e cJ11_highSurrogate_5068e 1 (some .char), Cond.constant RJ11 110 (55232), Cond.methodLink RJ2 161 yJ11_lowSurrogate_5068e, Cond.static yJ11_lowSurrogate_5068e, Cond.code yJ11_lowSurrogate_5068e cJ11_lowSurrogate_5068e 1 (some .char), Cond.constant RJ11 76 (56320), Cond.methodLink RJ2 96 yJ2_checkBoundsBeginEnd_d044e, Cond.static yJ2_checkBoundsBeginEnd_d044e, Cond.initialized RJ2, Cond.code yJ2_checkBoundsBeginEnd_d044e cJ2_checkBoundsBeginEnd_d044e 3 none, Cond.methodLink RJ2 48 yJ2_length_9d52b, Cond.static yJ2_length_9d52b, Cond.code yJ2_length_9d52b cJ2_length_9d52b 1 (some .int), Cond.methodLink RJ2 241 yJ0_checkBoundsBeginEnd_23922, Cond.static yJ0_checkBoundsBeginEnd_23922, Cond.initialized RJ0, Cond.code yJ0_checkBoundsBeginEnd_23922 cJ0_checkBoundsBeginEnd_23922 3 none, Cond.fieldLink RJ0 1053 "jdk/internal/util/Preconditions" "SIOOBE_FORMATTER" "Ljava/util/function/BiFunction;"]
def wsJ2_indexOfSupplementary_4cfef_r2 : List Cond := [Cond.methodLink RJ0 1062 yJ3_checkFromToIndex_8c36e, Cond.static yJ3_checkFromToIndex_8c36e, Cond.initialized RJ3, Cond.code yJ3_checkFromToIndex_8c36e cJ3_checkFromToIndex_8c36e 4 (some .int), Cond.methodLink RJ2 71 yJ2_getChar_3b067, Cond.static yJ2_getChar_3b067, Cond.code yJ2_getChar_3b067 cJ2_getChar_3b067 2 (some .char), Cond.fieldLink RJ2 44 "java/lang/StringUTF16" "$assertionsDisabled" "Z", Cond.fieldLink RJ2 59 "java/lang/StringUTF16" "HI_BYTE_SHIFT" "I", Cond.fieldLink RJ2 63 "java/lang/StringUTF16" "LO_BYTE_SHIFT" "I"]
def wsJ2_indexOfSupplementary_4cfef : List Cond := .code yJ2_indexOfSupplementary_4cfef cJ2_indexOfSupplementary_4cfef 7 (some .int) :: ((wsJ2_indexOfSupplementary_4cfef_r1 ++ wsJ2_indexOfSupplementary_4cfef_r2))
def wsJ2_indexOf_4cfef_r1 : List Cond := [Cond.methodLink RJ2 224 Lib.Math.max.name, Cond.static Lib.Math.max.name, Cond.initialized "java/lang/Math", Cond.code Lib.Math.max.name Lib.Math.max.code 2 (some .int), Cond.methodLink RJ2 183 Lib.Math.min.name, Cond.static Lib.Math.min.name, Cond.code Lib.Math.min.name Lib.Math.min.code 2 (some .int), Cond.constant RJ2 227 (65536), Cond.methodLink RJ2 228 yJ2_indexOfChar_4cfef, Cond.static yJ2_indexOfChar_4cfef, Cond.initialized RJ2, Cond.code yJ2_indexOfChar_4cfef cJ2_indexOfChar_4cfef 4 (some .int), Cond.methodLink RJ2 96 yJ2_checkBoundsBeginEnd_d044e, Cond.static yJ2_checkBoundsBeginEnd_d044e, Cond.code yJ2_checkBoundsBeginEnd_d044e cJ2_checkBoundsBeginEnd_d044e 3 none, Cond.methodLink RJ2 48 yJ2_length_9d52b, Cond.static yJ2_length_9d52b, Cond.code yJ2_length_9d52b cJ2_length_9d52b 1 (some .int), Cond.methodLink RJ2 241 yJ0_checkBoundsBeginEnd_23922, Cond.static yJ0_checkBoundsBeginEnd_23922, Cond.initialized RJ0, Cond.code yJ0_checkBoundsBeginEnd_23922 cJ0_checkBoundsBeginEnd_23922 3 none, Cond.fieldLink RJ0 1053 "jdk/internal/util/Preconditions" "SIOOBE_FORMATTER" "Ljava/util/function/BiFunction;", Cond.methodLink RJ0 1062 yJ3_checkFromToIndex_8c36e]
def wsJ2_indexOf_4cfef_r2 : List Cond := [Cond.static yJ3_checkFromToIndex_8c36e, Cond.initialized RJ3, Cond.code yJ3_checkFromToIndex_8c36e cJ3_checkFromToIndex_8c36e 4 (some .int), Cond.methodLink RJ2 244 yJ2_indexOfCharUnsafe_4cfef, Cond.static yJ2_indexOfCharUnsafe_4cfef, Cond.code yJ2_indexOfCharUnsafe_4cfef cJ2_indexOfCharUnsafe_4cfef 5 (some .int), Cond.methodLink RJ2 71 yJ2_getChar_3b067, Cond.static yJ2_getChar_3b067, Cond.code yJ2_getChar_3b067 cJ2_getChar_3b067 2 (some .char), Cond.fieldLink RJ2 44 "java/lang/StringUTF16" "$assertionsDisabled" "Z", Cond.fieldLink RJ2 59 "java/lang/StringUTF16" "HI_BYTE_SHIFT" "I", Cond.fieldLink RJ2 63 "java/lang/StringUTF16" "LO_BYTE_SHIFT" "I", Cond.methodLink RJ2 232 yJ2_indexOfSupplementary_4cfef, Cond.static yJ2_indexOfSupplementary_4cfef, Cond.code yJ2_indexOfSupplementary_4cfef cJ2_indexOfSupplementary_4cfef 7 (some .int), Cond.methodLink RJ2 164 yJ11_isValidCodePoint_9a6ad, Cond.static yJ11_isValidCodePoint_9a6ad, Cond.initialized RJ11, Cond.code yJ11_isValidCodePoint_9a6ad cJ11_isValidCodePoint_9a6ad 2 (some .boolean), Cond.methodLink RJ2 157 yJ11_highSurrogate_5068e, Cond.static yJ11_highSurrogate_5068e, Cond.code yJ11_highSurrogate_5068e cJ11_highSurrogate_5068e 1 (some .char), Cond.constant RJ11 110 (55232), Cond.methodLink RJ2 161 yJ11_lowSurrogate_5068e]
def wsJ2_indexOf_4cfef_r3 : List Cond := [Cond.static yJ11_lowSurrogate_5068e, Cond.code yJ11_lowSurrogate_5068e cJ11_lowSurrogate_5068e 1 (some .char), Cond.constant RJ11 76 (56320)]
def wsJ2_indexOf_4cfef : List Cond := .code yJ2_indexOf_4cfef cJ2_indexOf_4cfef 4 (some .int) :: ((wsJ2_indexOf_4cfef_r1 ++ (wsJ2_indexOf_4cfef_r2 ++ wsJ2_indexOf_4cfef_r3)))
def wsJ0_indexOf_7cf53_r1 : List Cond := [Cond.fieldLink RJ0 9 "java/lang/String" "value" "[B", Cond.methodLink RJ0 492 yJ0_isLatin1_aae02, Cond.instanceMethod yJ0_isLatin1_aae02, Cond.selects RJ0 yJ0_isLatin1_aae02 yJ0_isLatin1_aae02, Cond.initialized RJ0, Cond.code yJ0_isLatin1_aae02 cJ0_isLatin1_aae02 1 (some .boolean), Cond.fieldLink RJ0 38 "java/lang/String" "COMPACT_STRINGS" "Z", Cond.fieldLink RJ0 15 "java/lang/String" "coder" "B", Cond.methodLink RJ0 505 yJ0_length_8abf5, Cond.instanceMethod yJ0_length_8abf5, Cond.selects RJ0 yJ0_length_8abf5 yJ0_length_8abf5, Cond.code yJ0_length_8abf5 cJ0_length_8abf5 1 (some .int), Cond.methodLink RJ0 335 yJ0_coder_7d493, Cond.instanceMethod yJ0_coder_7d493, Cond.selects RJ0 yJ0_coder_7d493 yJ0_coder_7d493, Cond.code yJ0_coder_7d493 cJ0_coder_7d493 1 (some .byte), Cond.methodLink RJ0 637 yJ1_indexOf_4cfef, Cond.static yJ1_indexOf_4cfef, Cond.initialized RJ1, Cond.code yJ1_indexOf_4cfef cJ1_indexOf_4cfef 4 (some .int), Cond.methodLink RJ1 92 Lib.Math.max.name, Cond.static Lib.Math.max.name, Cond.initialized "java/lang/Math", Cond.code Lib.Math.max.name Lib.Math.max.code 2 (some .int)]
def wsJ0_indexOf_7cf53_r2 : List Cond := [Cond.methodLink RJ1 38 Lib.Math.min.name, Cond.static Lib.Math.min.name, Cond.code Lib.Math.min.name Lib.Math.min.code 2 (some .int), Cond.methodLink RJ1 88 yJ1_canEncode_9a6ad, Cond.static yJ1_canEncode_9a6ad, Cond.code yJ1_canEncode_9a6ad cJ1_canEncode_9a6ad 1 (some .boolean), Cond.methodLink RJ1 95 yJ1_indexOfChar_4cfef, Cond.static yJ1_indexOfChar_4cfef, Cond.code yJ1_indexOfChar_4cfef cJ1_indexOfChar_4cfef 6 (some .int), Cond.methodLink RJ0 640 yJ2_indexOf_4cfef, Cond.static yJ2_indexOf_4cfef, Cond.initialized RJ2, Cond.code yJ2_indexOf_4cfef cJ2_indexOf_4cfef 4 (some .int), Cond.methodLink RJ2 224 Lib.Math.max.name, Cond.methodLink RJ2 183 Lib.Math.min.name, Cond.constant RJ2 227 (65536), Cond.methodLink RJ2 228 yJ2_indexOfChar_4cfef, Cond.static yJ2_indexOfChar_4cfef, Cond.code yJ2_indexOfChar_4cfef cJ2_indexOfChar_4cfef 4 (some .int), Cond.methodLink RJ2 96 yJ2_checkBoundsBeginEnd_d044e, Cond.static yJ2_checkBoundsBeginEnd_d044e, Cond.code yJ2_checkBoundsBeginEnd_d044e cJ2_checkBoundsBeginEnd_d044e 3 none, Cond.methodLink RJ2 48 yJ2_length_9d52b, Cond.static yJ2_length_9d52b]
def wsJ0_indexOf_7cf53_r3 : List Cond := [Cond.code yJ2_length_9d52b cJ2_length_9d52b 1 (some .int), Cond.methodLink RJ2 241 yJ0_checkBoundsBeginEnd_23922, Cond.static yJ0_checkBoundsBeginEnd_23922, Cond.code yJ0_checkBoundsBeginEnd_23922 cJ0_checkBoundsBeginEnd_23922 3 none, Cond.fieldLink RJ0 1053 "jdk/internal/util/Preconditions" "SIOOBE_FORMATTER" "Ljava/util/function/BiFunction;", Cond.methodLink RJ0 1062 yJ3_checkFromToIndex_8c36e, Cond.static yJ3_checkFromToIndex_8c36e, Cond.initialized RJ3, Cond.code yJ3_checkFromToIndex_8c36e cJ3_checkFromToIndex_8c36e 4 (some .int), Cond.methodLink RJ2 244 yJ2_indexOfCharUnsafe_4cfef, Cond.static yJ2_indexOfCharUnsafe_4cfef, Cond.code yJ2_indexOfCharUnsafe_4cfef cJ2_indexOfCharUnsafe_4cfef 5 (some .int), Cond.methodLink RJ2 71 yJ2_getChar_3b067, Cond.static yJ2_getChar_3b067, Cond.code yJ2_getChar_3b067 cJ2_getChar_3b067 2 (some .char), Cond.fieldLink RJ2 44 "java/lang/StringUTF16" "$assertionsDisabled" "Z", Cond.fieldLink RJ2 59 "java/lang/StringUTF16" "HI_BYTE_SHIFT" "I", Cond.fieldLink RJ2 63 "java/lang/StringUTF16" "LO_BYTE_SHIFT" "I", Cond.methodLink RJ2 232 yJ2_indexOfSupplementary_4cfef, Cond.static yJ2_indexOfSupplementary_4cfef, Cond.code yJ2_indexOfSupplementary_4cfef cJ2_indexOfSupplementary_4cfef 7 (some .int), Cond.methodLink RJ2 164 yJ11_isValidCodePoint_9a6ad, Cond.static yJ11_isValidCodePoint_9a6ad, Cond.initialized RJ11]
def wsJ0_indexOf_7cf53_r4 : List Cond := [Cond.code yJ11_isValidCodePoint_9a6ad cJ11_isValidCodePoint_9a6ad 2 (some .boolean), Cond.methodLink RJ2 157 yJ11_highSurrogate_5068e, Cond.static yJ11_highSurrogate_5068e, Cond.code yJ11_highSurrogate_5068e cJ11_highSurrogate_5068e 1 (some .char), Cond.constant RJ11 110 (55232), Cond.methodLink RJ2 161 yJ11_lowSurrogate_5068e, Cond.static yJ11_lowSurrogate_5068e, Cond.code yJ11_lowSurrogate_5068e cJ11_lowSurrogate_5068e 1 (some .char), Cond.constant RJ11 76 (56320)]
def wsJ0_indexOf_7cf53 : List Cond := .code yJ0_indexOf_7cf53 cJ0_indexOf_7cf53 3 (some .int) :: ((wsJ0_indexOf_7cf53_r1 ++ (wsJ0_indexOf_7cf53_r2 ++ (wsJ0_indexOf_7cf53_r3 ++ wsJ0_indexOf_7cf53_r4))))
def wsJ0_indexOf_0f7a4_r1 : List Cond := [Cond.methodLink RJ0 633 yJ0_indexOf_7cf53, Cond.instanceMethod yJ0_indexOf_7cf53, Cond.selects RJ0 yJ0_indexOf_7cf53 yJ0_indexOf_7cf53, Cond.initialized RJ0, Cond.code yJ0_indexOf_7cf53 cJ0_indexOf_7cf53 3 (some .int), Cond.fieldLink RJ0 9 "java/lang/String" "value" "[B", Cond.methodLink RJ0 492 yJ0_isLatin1_aae02, Cond.instanceMethod yJ0_isLatin1_aae02, Cond.selects RJ0 yJ0_isLatin1_aae02 yJ0_isLatin1_aae02, Cond.code yJ0_isLatin1_aae02 cJ0_isLatin1_aae02 1 (some .boolean), Cond.fieldLink RJ0 38 "java/lang/String" "COMPACT_STRINGS" "Z", Cond.fieldLink RJ0 15 "java/lang/String" "coder" "B", Cond.methodLink RJ0 505 yJ0_length_8abf5, Cond.instanceMethod yJ0_length_8abf5, Cond.selects RJ0 yJ0_length_8abf5 yJ0_length_8abf5, Cond.code yJ0_length_8abf5 cJ0_length_8abf5 1 (some .int), Cond.methodLink RJ0 335 yJ0_coder_7d493, Cond.instanceMethod yJ0_coder_7d493, Cond.selects RJ0 yJ0_coder_7d493 yJ0_coder_7d493, Cond.code yJ0_coder_7d493 cJ0_coder_7d493 1 (some .byte), Cond.methodLink RJ0 637 yJ1_indexOf_4cfef, Cond.static yJ1_indexOf_4cfef, Cond.initialized RJ1, Cond.code yJ1_indexOf_4cfef cJ1_indexOf_4cfef 4 (some .int)]
def wsJ0_indexOf_0f7a4_r2 : List Cond := [Cond.methodLink RJ1 92 Lib.Math.max.name, Cond.static Lib.Math.max.name, Cond.initialized "java/lang/Math", Cond.code Lib.Math.max.name Lib.Math.max.code 2 (some .int), Cond.methodLink RJ1 38 Lib.Math.min.name, Cond.static Lib.Math.min.name, Cond.code Lib.Math.min.name Lib.Math.min.code 2 (some .int), Cond.methodLink RJ1 88 yJ1_canEncode_9a6ad, Cond.static yJ1_canEncode_9a6ad, Cond.code yJ1_canEncode_9a6ad cJ1_canEncode_9a6ad 1 (some .boolean), Cond.methodLink RJ1 95 yJ1_indexOfChar_4cfef, Cond.static yJ1_indexOfChar_4cfef, Cond.code yJ1_indexOfChar_4cfef cJ1_indexOfChar_4cfef 6 (some .int), Cond.methodLink RJ0 640 yJ2_indexOf_4cfef, Cond.static yJ2_indexOf_4cfef, Cond.initialized RJ2, Cond.code yJ2_indexOf_4cfef cJ2_indexOf_4cfef 4 (some .int), Cond.methodLink RJ2 224 Lib.Math.max.name, Cond.methodLink RJ2 183 Lib.Math.min.name, Cond.constant RJ2 227 (65536), Cond.methodLink RJ2 228 yJ2_indexOfChar_4cfef, Cond.static yJ2_indexOfChar_4cfef, Cond.code yJ2_indexOfChar_4cfef cJ2_indexOfChar_4cfef 4 (some .int), Cond.methodLink RJ2 96 yJ2_checkBoundsBeginEnd_d044e]
def wsJ0_indexOf_0f7a4_r3 : List Cond := [Cond.static yJ2_checkBoundsBeginEnd_d044e, Cond.code yJ2_checkBoundsBeginEnd_d044e cJ2_checkBoundsBeginEnd_d044e 3 none, Cond.methodLink RJ2 48 yJ2_length_9d52b, Cond.static yJ2_length_9d52b, Cond.code yJ2_length_9d52b cJ2_length_9d52b 1 (some .int), Cond.methodLink RJ2 241 yJ0_checkBoundsBeginEnd_23922, Cond.static yJ0_checkBoundsBeginEnd_23922, Cond.code yJ0_checkBoundsBeginEnd_23922 cJ0_checkBoundsBeginEnd_23922 3 none, Cond.fieldLink RJ0 1053 "jdk/internal/util/Preconditions" "SIOOBE_FORMATTER" "Ljava/util/function/BiFunction;", Cond.methodLink RJ0 1062 yJ3_checkFromToIndex_8c36e, Cond.static yJ3_checkFromToIndex_8c36e, Cond.initialized RJ3, Cond.code yJ3_checkFromToIndex_8c36e cJ3_checkFromToIndex_8c36e 4 (some .int), Cond.methodLink RJ2 244 yJ2_indexOfCharUnsafe_4cfef, Cond.static yJ2_indexOfCharUnsafe_4cfef, Cond.code yJ2_indexOfCharUnsafe_4cfef cJ2_indexOfCharUnsafe_4cfef 5 (some .int), Cond.methodLink RJ2 71 yJ2_getChar_3b067, Cond.static yJ2_getChar_3b067, Cond.code yJ2_getChar_3b067 cJ2_getChar_3b067 2 (some .char), Cond.fieldLink RJ2 44 "java/lang/StringUTF16" "$assertionsDisabled" "Z", Cond.fieldLink RJ2 59 "java/lang/StringUTF16" "HI_BYTE_SHIFT" "I", Cond.fieldLink RJ2 63 "java/lang/StringUTF16" "LO_BYTE_SHIFT" "I", Cond.methodLink RJ2 232 yJ2_indexOfSupplementary_4cfef, Cond.static yJ2_indexOfSupplementary_4cfef]
def wsJ0_indexOf_0f7a4_r4 : List Cond := [Cond.code yJ2_indexOfSupplementary_4cfef cJ2_indexOfSupplementary_4cfef 7 (some .int), Cond.methodLink RJ2 164 yJ11_isValidCodePoint_9a6ad, Cond.static yJ11_isValidCodePoint_9a6ad, Cond.initialized RJ11, Cond.code yJ11_isValidCodePoint_9a6ad cJ11_isValidCodePoint_9a6ad 2 (some .boolean), Cond.methodLink RJ2 157 yJ11_highSurrogate_5068e, Cond.static yJ11_highSurrogate_5068e, Cond.code yJ11_highSurrogate_5068e cJ11_highSurrogate_5068e 1 (some .char), Cond.constant RJ11 110 (55232), Cond.methodLink RJ2 161 yJ11_lowSurrogate_5068e, Cond.static yJ11_lowSurrogate_5068e, Cond.code yJ11_lowSurrogate_5068e cJ11_lowSurrogate_5068e 1 (some .char), Cond.constant RJ11 76 (56320)]
def wsJ0_indexOf_0f7a4 : List Cond := .code yJ0_indexOf_0f7a4 cJ0_indexOf_0f7a4 2 (some .int) :: ((wsJ0_indexOf_0f7a4_r1 ++ (wsJ0_indexOf_0f7a4_r2 ++ (wsJ0_indexOf_0f7a4_r3 ++ wsJ0_indexOf_0f7a4_r4))))
def wsX5_kindAt_r1 : List Cond := [Cond.methodLink RX5 19 yX5_codeAt, Cond.instanceMethod yX5_codeAt, Cond.selects RX5 yX5_codeAt yX5_codeAt, Cond.initialized RX5, Cond.code yX5_codeAt cX5_codeAt 2 (some .int), Cond.fieldLink RX5 15 "ShameYards$Page" "size" "I", Cond.fieldLink RX5 9 "ShameYards$Page" "codes" "[I", Cond.methodLink RX5 25 yJ0_indexOf_0f7a4, Cond.instanceMethod yJ0_indexOf_0f7a4, Cond.selects RJ0 yJ0_indexOf_0f7a4 yJ0_indexOf_0f7a4, Cond.initialized RJ0, Cond.code yJ0_indexOf_0f7a4 cJ0_indexOf_0f7a4 2 (some .int), Cond.methodLink RJ0 633 yJ0_indexOf_7cf53, Cond.instanceMethod yJ0_indexOf_7cf53, Cond.selects RJ0 yJ0_indexOf_7cf53 yJ0_indexOf_7cf53, Cond.code yJ0_indexOf_7cf53 cJ0_indexOf_7cf53 3 (some .int), Cond.fieldLink RJ0 9 "java/lang/String" "value" "[B", Cond.methodLink RJ0 492 yJ0_isLatin1_aae02, Cond.instanceMethod yJ0_isLatin1_aae02, Cond.selects RJ0 yJ0_isLatin1_aae02 yJ0_isLatin1_aae02, Cond.code yJ0_isLatin1_aae02 cJ0_isLatin1_aae02 1 (some .boolean), Cond.fieldLink RJ0 38 "java/lang/String" "COMPACT_STRINGS" "Z", Cond.fieldLink RJ0 15 "java/lang/String" "coder" "B", Cond.methodLink RJ0 505 yJ0_length_8abf5]
def wsX5_kindAt_r2 : List Cond := [Cond.instanceMethod yJ0_length_8abf5, Cond.selects RJ0 yJ0_length_8abf5 yJ0_length_8abf5, Cond.code yJ0_length_8abf5 cJ0_length_8abf5 1 (some .int), Cond.methodLink RJ0 335 yJ0_coder_7d493, Cond.instanceMethod yJ0_coder_7d493, Cond.selects RJ0 yJ0_coder_7d493 yJ0_coder_7d493, Cond.code yJ0_coder_7d493 cJ0_coder_7d493 1 (some .byte), Cond.methodLink RJ0 637 yJ1_indexOf_4cfef, Cond.static yJ1_indexOf_4cfef, Cond.initialized RJ1, Cond.code yJ1_indexOf_4cfef cJ1_indexOf_4cfef 4 (some .int), Cond.methodLink RJ1 92 Lib.Math.max.name, Cond.static Lib.Math.max.name, Cond.initialized "java/lang/Math", Cond.code Lib.Math.max.name Lib.Math.max.code 2 (some .int), Cond.methodLink RJ1 38 Lib.Math.min.name, Cond.static Lib.Math.min.name, Cond.code Lib.Math.min.name Lib.Math.min.code 2 (some .int), Cond.methodLink RJ1 88 yJ1_canEncode_9a6ad, Cond.static yJ1_canEncode_9a6ad, Cond.code yJ1_canEncode_9a6ad cJ1_canEncode_9a6ad 1 (some .boolean), Cond.methodLink RJ1 95 yJ1_indexOfChar_4cfef, Cond.static yJ1_indexOfChar_4cfef, Cond.code yJ1_indexOfChar_4cfef cJ1_indexOfChar_4cfef 6 (some .int)]
def wsX5_kindAt_r3 : List Cond := [Cond.methodLink RJ0 640 yJ2_indexOf_4cfef, Cond.static yJ2_indexOf_4cfef, Cond.initialized RJ2, Cond.code yJ2_indexOf_4cfef cJ2_indexOf_4cfef 4 (some .int), Cond.methodLink RJ2 224 Lib.Math.max.name, Cond.methodLink RJ2 183 Lib.Math.min.name, Cond.constant RJ2 227 (65536), Cond.methodLink RJ2 228 yJ2_indexOfChar_4cfef, Cond.static yJ2_indexOfChar_4cfef, Cond.code yJ2_indexOfChar_4cfef cJ2_indexOfChar_4cfef 4 (some .int), Cond.methodLink RJ2 96 yJ2_checkBoundsBeginEnd_d044e, Cond.static yJ2_checkBoundsBeginEnd_d044e, Cond.code yJ2_checkBoundsBeginEnd_d044e cJ2_checkBoundsBeginEnd_d044e 3 none, Cond.methodLink RJ2 48 yJ2_length_9d52b, Cond.static yJ2_length_9d52b, Cond.code yJ2_length_9d52b cJ2_length_9d52b 1 (some .int), Cond.methodLink RJ2 241 yJ0_checkBoundsBeginEnd_23922, Cond.static yJ0_checkBoundsBeginEnd_23922, Cond.code yJ0_checkBoundsBeginEnd_23922 cJ0_checkBoundsBeginEnd_23922 3 none, Cond.fieldLink RJ0 1053 "jdk/internal/util/Preconditions" "SIOOBE_FORMATTER" "Ljava/util/function/BiFunction;", Cond.methodLink RJ0 1062 yJ3_checkFromToIndex_8c36e, Cond.static yJ3_checkFromToIndex_8c36e, Cond.initialized RJ3, Cond.code yJ3_checkFromToIndex_8c36e cJ3_checkFromToIndex_8c36e 4 (some .int)]
def wsX5_kindAt_r4 : List Cond := [Cond.methodLink RJ2 244 yJ2_indexOfCharUnsafe_4cfef, Cond.static yJ2_indexOfCharUnsafe_4cfef, Cond.code yJ2_indexOfCharUnsafe_4cfef cJ2_indexOfCharUnsafe_4cfef 5 (some .int), Cond.methodLink RJ2 71 yJ2_getChar_3b067, Cond.static yJ2_getChar_3b067, Cond.code yJ2_getChar_3b067 cJ2_getChar_3b067 2 (some .char), Cond.fieldLink RJ2 44 "java/lang/StringUTF16" "$assertionsDisabled" "Z", Cond.fieldLink RJ2 59 "java/lang/StringUTF16" "HI_BYTE_SHIFT" "I", Cond.fieldLink RJ2 63 "java/lang/StringUTF16" "LO_BYTE_SHIFT" "I", Cond.methodLink RJ2 232 yJ2_indexOfSupplementary_4cfef, Cond.static yJ2_indexOfSupplementary_4cfef, Cond.code yJ2_indexOfSupplementary_4cfef cJ2_indexOfSupplementary_4cfef 7 (some .int), Cond.methodLink RJ2 164 yJ11_isValidCodePoint_9a6ad, Cond.static yJ11_isValidCodePoint_9a6ad, Cond.initialized RJ11, Cond.code yJ11_isValidCodePoint_9a6ad cJ11_isValidCodePoint_9a6ad 2 (some .boolean), Cond.methodLink RJ2 157 yJ11_highSurrogate_5068e, Cond.static yJ11_highSurrogate_5068e, Cond.code yJ11_highSurrogate_5068e cJ11_highSurrogate_5068e 1 (some .char), Cond.constant RJ11 110 (55232), Cond.methodLink RJ2 161 yJ11_lowSurrogate_5068e, Cond.static yJ11_lowSurrogate_5068e, Cond.code yJ11_lowSurrogate_5068e cJ11_lowSurrogate_5068e 1 (some .char), Cond.constant RJ11 76 (56320)]
def wsX5_kindAt : List Cond := .code yX5_kindAt cX5_kindAt 2 (some .int) :: ((wsX5_kindAt_r1 ++ (wsX5_kindAt_r2 ++ (wsX5_kindAt_r3 ++ wsX5_kindAt_r4))) ++ wsX50)
def wsX2_settle_r1 : List Cond := [Cond.fieldLink RX2 77 "ShameYards$House" "roomCount" "I", Cond.methodLink RX2 81 Lib.Math.min.name, Cond.static Lib.Math.min.name, Cond.initialized "java/lang/Math", Cond.code Lib.Math.min.name Lib.Math.min.code 2 (some .int), Cond.fieldLink RX2 87 "ShameYards$House" "passageCount" "I", Cond.fieldLink RX2 90 "ShameYards$Page" "size" "I", Cond.fieldLink RX2 93 "ShameYards$House" "peopleCount" "I", Cond.fieldLink RX2 30 "ShameYards$House" "oneEnd" "[I", Cond.fieldLink RX2 34 "ShameYards$House" "otherEnd" "[I", Cond.fieldLink RX2 37 "ShameYards$House" "lengths" "[I", Cond.fieldLink RX2 40 "ShameYards$House" "kinds" "[I", Cond.fieldLink RX2 43 "ShameYards$House" "deeds" "[I", Cond.fieldLink RX2 46 "ShameYards$House" "lies" "[I", Cond.fieldLink RX2 49 "ShameYards$House" "places" "[I", Cond.fieldLink RX2 52 "ShameYards$House" "taken" "[I", Cond.fieldLink RX2 99 "ShameYards$House" "walksTogether" "I", Cond.fieldLink RX2 102 "ShameYards$House" "seenCount" "I", Cond.methodLink RX2 67 yX5_border, Cond.instanceMethod yX5_border, Cond.selects RX5 yX5_border yX5_border, Cond.initialized RX5, Cond.code yX5_border cX5_border 2 (some .int), Cond.fieldLink RX5 15 "ShameYards$Page" "size" "I"]
def wsX2_settle_r2 : List Cond := [Cond.fieldLink RX5 9 "ShameYards$Page" "codes" "[I", Cond.methodLink RX2 73 yX5_digitAt, Cond.instanceMethod yX5_digitAt, Cond.selects RX5 yX5_digitAt yX5_digitAt, Cond.code yX5_digitAt cX5_digitAt 2 (some .int), Cond.methodLink RX5 19 yX5_codeAt, Cond.instanceMethod yX5_codeAt, Cond.selects RX5 yX5_codeAt yX5_codeAt, Cond.code yX5_codeAt cX5_codeAt 2 (some .int), Cond.methodLink RX2 96 yX5_kindAt, Cond.instanceMethod yX5_kindAt, Cond.selects RX5 yX5_kindAt yX5_kindAt, Cond.code yX5_kindAt cX5_kindAt 2 (some .int), Cond.methodLink RX5 25 yJ0_indexOf_0f7a4, Cond.instanceMethod yJ0_indexOf_0f7a4, Cond.selects RJ0 yJ0_indexOf_0f7a4 yJ0_indexOf_0f7a4, Cond.initialized RJ0, Cond.code yJ0_indexOf_0f7a4 cJ0_indexOf_0f7a4 2 (some .int), Cond.methodLink RJ0 633 yJ0_indexOf_7cf53, Cond.instanceMethod yJ0_indexOf_7cf53, Cond.selects RJ0 yJ0_indexOf_7cf53 yJ0_indexOf_7cf53, Cond.code yJ0_indexOf_7cf53 cJ0_indexOf_7cf53 3 (some .int), Cond.fieldLink RJ0 9 "java/lang/String" "value" "[B", Cond.methodLink RJ0 492 yJ0_isLatin1_aae02]
def wsX2_settle_r3 : List Cond := [Cond.instanceMethod yJ0_isLatin1_aae02, Cond.selects RJ0 yJ0_isLatin1_aae02 yJ0_isLatin1_aae02, Cond.code yJ0_isLatin1_aae02 cJ0_isLatin1_aae02 1 (some .boolean), Cond.fieldLink RJ0 38 "java/lang/String" "COMPACT_STRINGS" "Z", Cond.fieldLink RJ0 15 "java/lang/String" "coder" "B", Cond.methodLink RJ0 505 yJ0_length_8abf5, Cond.instanceMethod yJ0_length_8abf5, Cond.selects RJ0 yJ0_length_8abf5 yJ0_length_8abf5, Cond.code yJ0_length_8abf5 cJ0_length_8abf5 1 (some .int), Cond.methodLink RJ0 335 yJ0_coder_7d493, Cond.instanceMethod yJ0_coder_7d493, Cond.selects RJ0 yJ0_coder_7d493 yJ0_coder_7d493, Cond.code yJ0_coder_7d493 cJ0_coder_7d493 1 (some .byte), Cond.methodLink RJ0 637 yJ1_indexOf_4cfef, Cond.static yJ1_indexOf_4cfef, Cond.initialized RJ1, Cond.code yJ1_indexOf_4cfef cJ1_indexOf_4cfef 4 (some .int), Cond.methodLink RJ1 92 Lib.Math.max.name, Cond.static Lib.Math.max.name, Cond.code Lib.Math.max.name Lib.Math.max.code 2 (some .int), Cond.methodLink RJ1 38 Lib.Math.min.name, Cond.methodLink RJ1 88 yJ1_canEncode_9a6ad, Cond.static yJ1_canEncode_9a6ad, Cond.code yJ1_canEncode_9a6ad cJ1_canEncode_9a6ad 1 (some .boolean)]
def wsX2_settle_r4 : List Cond := [Cond.methodLink RJ1 95 yJ1_indexOfChar_4cfef, Cond.static yJ1_indexOfChar_4cfef, Cond.code yJ1_indexOfChar_4cfef cJ1_indexOfChar_4cfef 6 (some .int), Cond.methodLink RJ0 640 yJ2_indexOf_4cfef, Cond.static yJ2_indexOf_4cfef, Cond.initialized RJ2, Cond.code yJ2_indexOf_4cfef cJ2_indexOf_4cfef 4 (some .int), Cond.methodLink RJ2 224 Lib.Math.max.name, Cond.methodLink RJ2 183 Lib.Math.min.name, Cond.constant RJ2 227 (65536), Cond.methodLink RJ2 228 yJ2_indexOfChar_4cfef, Cond.static yJ2_indexOfChar_4cfef, Cond.code yJ2_indexOfChar_4cfef cJ2_indexOfChar_4cfef 4 (some .int), Cond.methodLink RJ2 96 yJ2_checkBoundsBeginEnd_d044e, Cond.static yJ2_checkBoundsBeginEnd_d044e, Cond.code yJ2_checkBoundsBeginEnd_d044e cJ2_checkBoundsBeginEnd_d044e 3 none, Cond.methodLink RJ2 48 yJ2_length_9d52b, Cond.static yJ2_length_9d52b, Cond.code yJ2_length_9d52b cJ2_length_9d52b 1 (some .int), Cond.methodLink RJ2 241 yJ0_checkBoundsBeginEnd_23922, Cond.static yJ0_checkBoundsBeginEnd_23922, Cond.code yJ0_checkBoundsBeginEnd_23922 cJ0_checkBoundsBeginEnd_23922 3 none, Cond.fieldLink RJ0 1053 "jdk/internal/util/Preconditions" "SIOOBE_FORMATTER" "Ljava/util/function/BiFunction;", Cond.methodLink RJ0 1062 yJ3_checkFromToIndex_8c36e]
def wsX2_settle_r5 : List Cond := [Cond.static yJ3_checkFromToIndex_8c36e, Cond.initialized RJ3, Cond.code yJ3_checkFromToIndex_8c36e cJ3_checkFromToIndex_8c36e 4 (some .int), Cond.methodLink RJ2 244 yJ2_indexOfCharUnsafe_4cfef, Cond.static yJ2_indexOfCharUnsafe_4cfef, Cond.code yJ2_indexOfCharUnsafe_4cfef cJ2_indexOfCharUnsafe_4cfef 5 (some .int), Cond.methodLink RJ2 71 yJ2_getChar_3b067, Cond.static yJ2_getChar_3b067, Cond.code yJ2_getChar_3b067 cJ2_getChar_3b067 2 (some .char), Cond.fieldLink RJ2 44 "java/lang/StringUTF16" "$assertionsDisabled" "Z", Cond.fieldLink RJ2 59 "java/lang/StringUTF16" "HI_BYTE_SHIFT" "I", Cond.fieldLink RJ2 63 "java/lang/StringUTF16" "LO_BYTE_SHIFT" "I", Cond.methodLink RJ2 232 yJ2_indexOfSupplementary_4cfef, Cond.static yJ2_indexOfSupplementary_4cfef, Cond.code yJ2_indexOfSupplementary_4cfef cJ2_indexOfSupplementary_4cfef 7 (some .int), Cond.methodLink RJ2 164 yJ11_isValidCodePoint_9a6ad, Cond.static yJ11_isValidCodePoint_9a6ad, Cond.initialized RJ11, Cond.code yJ11_isValidCodePoint_9a6ad cJ11_isValidCodePoint_9a6ad 2 (some .boolean), Cond.methodLink RJ2 157 yJ11_highSurrogate_5068e, Cond.static yJ11_highSurrogate_5068e, Cond.code yJ11_highSurrogate_5068e cJ11_highSurrogate_5068e 1 (some .char), Cond.constant RJ11 110 (55232), Cond.methodLink RJ2 161 yJ11_lowSurrogate_5068e]
def wsX2_settle_r6 : List Cond := [Cond.static yJ11_lowSurrogate_5068e, Cond.code yJ11_lowSurrogate_5068e cJ11_lowSurrogate_5068e 1 (some .char), Cond.constant RJ11 76 (56320)]
def wsX2_settle : List Cond := .code yX2_settle cX2_settle 5 none :: ((wsX2_settle_r1 ++ (wsX2_settle_r2 ++ (wsX2_settle_r3 ++ (wsX2_settle_r4 ++ (wsX2_settle_r5 ++ wsX2_settle_r6))))) ++ wsX20 ++ wsX50)
def wsX2_copyFrom : List Cond := .code yX2_copyFrom cX2_copyFrom 2 none :: ([.fieldLink RX2 77 "ShameYards$House" "roomCount" "I", .fieldLink RX2 87 "ShameYards$House" "passageCount" "I", .fieldLink RX2 93 "ShameYards$House" "peopleCount" "I", .fieldLink RX2 99 "ShameYards$House" "walksTogether" "I", .fieldLink RX2 102 "ShameYards$House" "seenCount" "I", .fieldLink RX2 30 "ShameYards$House" "oneEnd" "[I", .methodLink RX2 105 arraycopyName, .native arraycopyName, .static arraycopyName, .initialized "java/lang/System", .fieldLink RX2 34 "ShameYards$House" "otherEnd" "[I", .fieldLink RX2 37 "ShameYards$House" "lengths" "[I", .fieldLink RX2 40 "ShameYards$House" "kinds" "[I", .fieldLink RX2 43 "ShameYards$House" "deeds" "[I", .fieldLink RX2 46 "ShameYards$House" "lies" "[I", .fieldLink RX2 49 "ShameYards$House" "places" "[I", .fieldLink RX2 52 "ShameYards$House" "taken" "[I", .fieldLink RX2 55 "ShameYards$House" "seenPerson" "[I", .fieldLink RX2 58 "ShameYards$House" "seenPassage" "[I", .fieldLink RX2 61 "ShameYards$House" "seenWith" "[I", .fieldLink RX2 64 "ShameYards$House" "seenSteps" "[I"] ++ wsX20)
def wsX2_isThere : List Cond := .code yX2_isThere cX2_isThere 1 (some .boolean) :: ([.fieldLink RX2 77 "ShameYards$House" "roomCount" "I"] ++ wsX20)
def wsX2_hasPerson : List Cond := .code yX2_hasPerson cX2_hasPerson 2 (some .boolean) :: ([.fieldLink RX2 93 "ShameYards$House" "peopleCount" "I"] ++ wsX20)
def wsX2_hasPassage : List Cond := .code yX2_hasPassage cX2_hasPassage 2 (some .boolean) :: ([.fieldLink RX2 87 "ShameYards$House" "passageCount" "I"] ++ wsX20)
def wsX2_hasRoom : List Cond := .code yX2_hasRoom cX2_hasRoom 2 (some .boolean) :: ([.fieldLink RX2 77 "ShameYards$House" "roomCount" "I"] ++ wsX20)
def wsX2_knows : List Cond := .code yX2_knows cX2_knows 4 (some .boolean) :: ([.methodLink RX2 111 yX2_hasPerson, .instanceMethod yX2_hasPerson, .selects RX2 yX2_hasPerson yX2_hasPerson, .initialized RX2, .code yX2_hasPerson cX2_hasPerson 2 (some .boolean), .fieldLink RX2 93 "ShameYards$House" "peopleCount" "I", .methodLink RX2 115 yX2_hasPassage, .instanceMethod yX2_hasPassage, .selects RX2 yX2_hasPassage yX2_hasPassage, .code yX2_hasPassage cX2_hasPassage 2 (some .boolean), .fieldLink RX2 87 "ShameYards$House" "passageCount" "I"] ++ wsX20)
def wsX2_clerk : List Cond := .code yX2_clerk cX2_clerk 2 (some (.object "ShameYards$Clerk")) :: ([.fieldLink RX2 24 "ShameYards$House" "clerks" "[LShameYards$Clerk;", .fieldLink RX2 40 "ShameYards$House" "kinds" "[I"] ++ wsX20)
def wsX4_yards : List Cond := .code yX4_yards cX4_yards 4 (some .int) :: ([])
def wsX3_yards : List Cond := .code yX3_yards cX3_yards 4 (some .int) :: ([.methodLink RX3 7 yX4_yards, .sameMethod "ShameYards$Minister" "ShameYards$Minister" "yards" "(III)I", .superclass RX3 RX4, .instanceMethod yX4_yards, .initialized RX4, .code yX4_yards cX4_yards 4 (some .int)])
def wsX10_yards : List Cond := .code yX10_yards cX10_yards 4 (some .int) :: ([.methodLink RX10 7 yX1_yards, .sameMethod "ShameYards$Clerk" "ShameYards$Clerk" "yards" "(III)I", .superclass RX10 RX1, .instanceMethod yX1_yards, .initialized RX1, .code yX1_yards cX1_yards 4 (some .int)])
def wsX2_aloneSteps_r1 : List Cond := [Cond.fieldLink RX2 37 "ShameYards$House" "lengths" "[I", Cond.fieldLink RX2 43 "ShameYards$House" "deeds" "[I", Cond.fieldLink RX2 46 "ShameYards$House" "lies" "[I", Cond.methodLink RX2 118 yX2_clerk, Cond.instanceMethod yX2_clerk, Cond.selects RX2 yX2_clerk yX2_clerk, Cond.initialized RX2, Cond.code yX2_clerk cX2_clerk 2 (some (.object "ShameYards$Clerk")), Cond.fieldLink RX2 24 "ShameYards$House" "clerks" "[LShameYards$Clerk;", Cond.fieldLink RX2 40 "ShameYards$House" "kinds" "[I", Cond.methodLink RX2 122 ⟨"ShameYards$Clerk", "yards", "(III)I"⟩, Cond.sameMethod "ShameYards$Clerk" "ShameYards$Clerk" "yards" "(III)I", Cond.instanceMethod ⟨"ShameYards$Clerk", "yards", "(III)I"⟩, Cond.selects RX0 ⟨"ShameYards$Clerk", "yards", "(III)I"⟩ yX0_yards, Cond.instanceMethod yX0_yards, Cond.initialized RX0, Cond.code yX0_yards cX0_yards 4 (some .int), Cond.methodLink RX0 7 yX1_yards, Cond.superclass RX0 RX1, Cond.instanceMethod yX1_yards, Cond.initialized RX1, Cond.code yX1_yards cX1_yards 4 (some .int), Cond.methodLink RX2 122 yX1_yards, Cond.selects RX1 yX1_yards yX1_yards]
def wsX2_aloneSteps_r2 : List Cond := [Cond.selects RX3 ⟨"ShameYards$Clerk", "yards", "(III)I"⟩ yX3_yards, Cond.instanceMethod yX3_yards, Cond.initialized RX3, Cond.code yX3_yards cX3_yards 4 (some .int), Cond.methodLink RX3 7 yX4_yards, Cond.sameMethod "ShameYards$Minister" "ShameYards$Minister" "yards" "(III)I", Cond.superclass RX3 RX4, Cond.instanceMethod yX4_yards, Cond.initialized RX4, Cond.code yX4_yards cX4_yards 4 (some .int), Cond.selects RX4 ⟨"ShameYards$Clerk", "yards", "(III)I"⟩ yX4_yards, Cond.selects RX10 ⟨"ShameYards$Clerk", "yards", "(III)I"⟩ yX10_yards, Cond.instanceMethod yX10_yards, Cond.initialized RX10, Cond.code yX10_yards cX10_yards 4 (some .int), Cond.methodLink RX10 7 yX1_yards, Cond.superclass RX10 RX1]
def wsX2_aloneSteps : List Cond := .code yX2_aloneSteps cX2_aloneSteps 3 (some .int) :: ((wsX2_aloneSteps_r1 ++ wsX2_aloneSteps_r2) ++ wsX20)
def wsX2_stepsWithLies_r1 : List Cond := [Cond.fieldLink RX2 37 "ShameYards$House" "lengths" "[I", Cond.fieldLink RX2 43 "ShameYards$House" "deeds" "[I", Cond.fieldLink RX2 46 "ShameYards$House" "lies" "[I", Cond.methodLink RX2 118 yX2_clerk, Cond.instanceMethod yX2_clerk, Cond.selects RX2 yX2_clerk yX2_clerk, Cond.initialized RX2, Cond.code yX2_clerk cX2_clerk 2 (some (.object "ShameYards$Clerk")), Cond.fieldLink RX2 24 "ShameYards$House" "clerks" "[LShameYards$Clerk;", Cond.fieldLink RX2 40 "ShameYards$House" "kinds" "[I", Cond.methodLink RX2 122 ⟨"ShameYards$Clerk", "yards", "(III)I"⟩, Cond.sameMethod "ShameYards$Clerk" "ShameYards$Clerk" "yards" "(III)I", Cond.instanceMethod ⟨"ShameYards$Clerk", "yards", "(III)I"⟩, Cond.selects RX0 ⟨"ShameYards$Clerk", "yards", "(III)I"⟩ yX0_yards, Cond.instanceMethod yX0_yards, Cond.initialized RX0, Cond.code yX0_yards cX0_yards 4 (some .int), Cond.methodLink RX0 7 yX1_yards, Cond.superclass RX0 RX1, Cond.instanceMethod yX1_yards, Cond.initialized RX1, Cond.code yX1_yards cX1_yards 4 (some .int), Cond.methodLink RX2 122 yX1_yards, Cond.selects RX1 yX1_yards yX1_yards]
def wsX2_stepsWithLies_r2 : List Cond := [Cond.selects RX3 ⟨"ShameYards$Clerk", "yards", "(III)I"⟩ yX3_yards, Cond.instanceMethod yX3_yards, Cond.initialized RX3, Cond.code yX3_yards cX3_yards 4 (some .int), Cond.methodLink RX3 7 yX4_yards, Cond.sameMethod "ShameYards$Minister" "ShameYards$Minister" "yards" "(III)I", Cond.superclass RX3 RX4, Cond.instanceMethod yX4_yards, Cond.initialized RX4, Cond.code yX4_yards cX4_yards 4 (some .int), Cond.selects RX4 ⟨"ShameYards$Clerk", "yards", "(III)I"⟩ yX4_yards, Cond.selects RX10 ⟨"ShameYards$Clerk", "yards", "(III)I"⟩ yX10_yards, Cond.instanceMethod yX10_yards, Cond.initialized RX10, Cond.code yX10_yards cX10_yards 4 (some .int), Cond.methodLink RX10 7 yX1_yards, Cond.superclass RX10 RX1]
def wsX2_stepsWithLies : List Cond := .code yX2_stepsWithLies cX2_stepsWithLies 7 (some .int) :: ((wsX2_stepsWithLies_r1 ++ wsX2_stepsWithLies_r2) ++ wsX20)
def wsX2_stepsOf_r1 : List Cond := [Cond.fieldLink RX2 46 "ShameYards$House" "lies" "[I", Cond.methodLink RX2 126 yX2_stepsWithLies, Cond.instanceMethod yX2_stepsWithLies, Cond.selects RX2 yX2_stepsWithLies yX2_stepsWithLies, Cond.initialized RX2, Cond.code yX2_stepsWithLies cX2_stepsWithLies 7 (some .int), Cond.fieldLink RX2 37 "ShameYards$House" "lengths" "[I", Cond.fieldLink RX2 43 "ShameYards$House" "deeds" "[I", Cond.methodLink RX2 118 yX2_clerk, Cond.instanceMethod yX2_clerk, Cond.selects RX2 yX2_clerk yX2_clerk, Cond.code yX2_clerk cX2_clerk 2 (some (.object "ShameYards$Clerk")), Cond.fieldLink RX2 24 "ShameYards$House" "clerks" "[LShameYards$Clerk;", Cond.fieldLink RX2 40 "ShameYards$House" "kinds" "[I", Cond.methodLink RX2 122 ⟨"ShameYards$Clerk", "yards", "(III)I"⟩, Cond.sameMethod "ShameYards$Clerk" "ShameYards$Clerk" "yards" "(III)I", Cond.instanceMethod ⟨"ShameYards$Clerk", "yards", "(III)I"⟩, Cond.selects RX0 ⟨"ShameYards$Clerk", "yards", "(III)I"⟩ yX0_yards, Cond.instanceMethod yX0_yards, Cond.initialized RX0, Cond.code yX0_yards cX0_yards 4 (some .int), Cond.methodLink RX0 7 yX1_yards, Cond.superclass RX0 RX1, Cond.instanceMethod yX1_yards]
def wsX2_stepsOf_r2 : List Cond := [Cond.initialized RX1, Cond.code yX1_yards cX1_yards 4 (some .int), Cond.methodLink RX2 122 yX1_yards, Cond.selects RX1 yX1_yards yX1_yards, Cond.selects RX3 ⟨"ShameYards$Clerk", "yards", "(III)I"⟩ yX3_yards, Cond.instanceMethod yX3_yards, Cond.initialized RX3, Cond.code yX3_yards cX3_yards 4 (some .int), Cond.methodLink RX3 7 yX4_yards, Cond.sameMethod "ShameYards$Minister" "ShameYards$Minister" "yards" "(III)I", Cond.superclass RX3 RX4, Cond.instanceMethod yX4_yards, Cond.initialized RX4, Cond.code yX4_yards cX4_yards 4 (some .int), Cond.selects RX4 ⟨"ShameYards$Clerk", "yards", "(III)I"⟩ yX4_yards, Cond.selects RX10 ⟨"ShameYards$Clerk", "yards", "(III)I"⟩ yX10_yards, Cond.instanceMethod yX10_yards, Cond.initialized RX10, Cond.code yX10_yards cX10_yards 4 (some .int), Cond.methodLink RX10 7 yX1_yards, Cond.superclass RX10 RX1]
def wsX2_stepsOf : List Cond := .code yX2_stepsOf cX2_stepsOf 4 (some .int) :: ((wsX2_stepsOf_r1 ++ wsX2_stepsOf_r2) ++ wsX20)
def wsX2_endsAt : List Cond := .code yX2_endsAt cX2_endsAt 3 (some .boolean) :: ([.fieldLink RX2 30 "ShameYards$House" "oneEnd" "[I", .fieldLink RX2 34 "ShameYards$House" "otherEnd" "[I"] ++ wsX20)
def wsX2_across : List Cond := .code yX2_across cX2_across 3 (some .int) :: ([.fieldLink RX2 30 "ShameYards$House" "oneEnd" "[I", .fieldLink RX2 34 "ShameYards$House" "otherEnd" "[I"] ++ wsX20)
def wsX2_doorsOf : List Cond := .code yX2_doorsOf cX2_doorsOf 4 (some .int) :: ([.fieldLink RX2 87 "ShameYards$House" "passageCount" "I", .methodLink RX2 130 yX2_endsAt, .instanceMethod yX2_endsAt, .selects RX2 yX2_endsAt yX2_endsAt, .initialized RX2, .code yX2_endsAt cX2_endsAt 3 (some .boolean), .fieldLink RX2 30 "ShameYards$House" "oneEnd" "[I", .fieldLink RX2 34 "ShameYards$House" "otherEnd" "[I"] ++ wsX20)
def wsX2_doorOf : List Cond := .code yX2_doorOf cX2_doorOf 5 (some .int) :: ([.fieldLink RX2 87 "ShameYards$House" "passageCount" "I", .methodLink RX2 130 yX2_endsAt, .instanceMethod yX2_endsAt, .selects RX2 yX2_endsAt yX2_endsAt, .initialized RX2, .code yX2_endsAt cX2_endsAt 3 (some .boolean), .fieldLink RX2 30 "ShameYards$House" "oneEnd" "[I", .fieldLink RX2 34 "ShameYards$House" "otherEnd" "[I"] ++ wsX20)
def wsX2_mayLeaveBy : List Cond := .code yX2_mayLeaveBy cX2_mayLeaveBy 4 (some .boolean) :: ([.fieldLink RX2 49 "ShameYards$House" "places" "[I", .methodLink RX2 130 yX2_endsAt, .instanceMethod yX2_endsAt, .selects RX2 yX2_endsAt yX2_endsAt, .initialized RX2, .code yX2_endsAt cX2_endsAt 3 (some .boolean), .fieldLink RX2 30 "ShameYards$House" "oneEnd" "[I", .fieldLink RX2 34 "ShameYards$House" "otherEnd" "[I"] ++ wsX20)
def wsX2_walk_r1 : List Cond := [Cond.fieldLink RX2 49 "ShameYards$House" "places" "[I", Cond.fieldLink RX2 52 "ShameYards$House" "taken" "[I", Cond.fieldLink RX2 99 "ShameYards$House" "walksTogether" "I", Cond.methodLink RX2 134 yX2_stepsOf, Cond.instanceMethod yX2_stepsOf, Cond.selects RX2 yX2_stepsOf yX2_stepsOf, Cond.initialized RX2, Cond.code yX2_stepsOf cX2_stepsOf 4 (some .int), Cond.fieldLink RX2 46 "ShameYards$House" "lies" "[I", Cond.methodLink RX2 126 yX2_stepsWithLies, Cond.instanceMethod yX2_stepsWithLies, Cond.selects RX2 yX2_stepsWithLies yX2_stepsWithLies, Cond.code yX2_stepsWithLies cX2_stepsWithLies 7 (some .int), Cond.fieldLink RX2 37 "ShameYards$House" "lengths" "[I", Cond.fieldLink RX2 43 "ShameYards$House" "deeds" "[I", Cond.methodLink RX2 118 yX2_clerk, Cond.instanceMethod yX2_clerk, Cond.selects RX2 yX2_clerk yX2_clerk, Cond.code yX2_clerk cX2_clerk 2 (some (.object "ShameYards$Clerk")), Cond.fieldLink RX2 24 "ShameYards$House" "clerks" "[LShameYards$Clerk;", Cond.fieldLink RX2 40 "ShameYards$House" "kinds" "[I", Cond.methodLink RX2 122 ⟨"ShameYards$Clerk", "yards", "(III)I"⟩, Cond.sameMethod "ShameYards$Clerk" "ShameYards$Clerk" "yards" "(III)I", Cond.instanceMethod ⟨"ShameYards$Clerk", "yards", "(III)I"⟩]
def wsX2_walk_r2 : List Cond := [Cond.selects RX0 ⟨"ShameYards$Clerk", "yards", "(III)I"⟩ yX0_yards, Cond.instanceMethod yX0_yards, Cond.initialized RX0, Cond.code yX0_yards cX0_yards 4 (some .int), Cond.methodLink RX0 7 yX1_yards, Cond.superclass RX0 RX1, Cond.instanceMethod yX1_yards, Cond.initialized RX1, Cond.code yX1_yards cX1_yards 4 (some .int), Cond.methodLink RX2 122 yX1_yards, Cond.selects RX1 yX1_yards yX1_yards, Cond.selects RX3 ⟨"ShameYards$Clerk", "yards", "(III)I"⟩ yX3_yards, Cond.instanceMethod yX3_yards, Cond.initialized RX3, Cond.code yX3_yards cX3_yards 4 (some .int), Cond.methodLink RX3 7 yX4_yards, Cond.sameMethod "ShameYards$Minister" "ShameYards$Minister" "yards" "(III)I", Cond.superclass RX3 RX4, Cond.instanceMethod yX4_yards, Cond.initialized RX4, Cond.code yX4_yards cX4_yards 4 (some .int), Cond.selects RX4 ⟨"ShameYards$Clerk", "yards", "(III)I"⟩ yX4_yards, Cond.selects RX10 ⟨"ShameYards$Clerk", "yards", "(III)I"⟩ yX10_yards, Cond.instanceMethod yX10_yards]
def wsX2_walk_r3 : List Cond := [Cond.initialized RX10, Cond.code yX10_yards cX10_yards 4 (some .int), Cond.methodLink RX10 7 yX1_yards, Cond.superclass RX10 RX1, Cond.methodLink RX2 137 yX2_across, Cond.instanceMethod yX2_across, Cond.selects RX2 yX2_across yX2_across, Cond.code yX2_across cX2_across 3 (some .int), Cond.fieldLink RX2 30 "ShameYards$House" "oneEnd" "[I", Cond.fieldLink RX2 34 "ShameYards$House" "otherEnd" "[I"]
def wsX2_walk : List Cond := .code yX2_walk cX2_walk 6 (some .int) :: ((wsX2_walk_r1 ++ (wsX2_walk_r2 ++ wsX2_walk_r3)) ++ wsX20)
def wsX2_note : List Cond := .code yX2_note cX2_note 5 none :: ([.fieldLink RX2 102 "ShameYards$House" "seenCount" "I", .fieldLink RX2 55 "ShameYards$House" "seenPerson" "[I", .fieldLink RX2 58 "ShameYards$House" "seenPassage" "[I", .fieldLink RX2 61 "ShameYards$House" "seenWith" "[I", .fieldLink RX2 64 "ShameYards$House" "seenSteps" "[I"] ++ wsX20)
def wsX2_sumOfPeople : List Cond := .code yX2_sumOfPeople cX2_sumOfPeople 4 (some .int) :: ([.fieldLink RX2 93 "ShameYards$House" "peopleCount" "I"] ++ wsX20)
def wsX2_peopleInRoomZero : List Cond := .code yX2_peopleInRoomZero cX2_peopleInRoomZero 3 (some .int) :: ([.fieldLink RX2 93 "ShameYards$House" "peopleCount" "I", .fieldLink RX2 49 "ShameYards$House" "places" "[I"] ++ wsX20)
def wsX5_init : List Cond := .code yX5_init cX5_init 1 none :: ([.methodLink RX5 3 objectInit, .instanceMethod objectInit, .code objectInit ⟨#[0xb1]⟩ 1 none, .arrayClass .int, .fieldLink RX5 9 "ShameYards$Page" "codes" "[I"] ++ wsX50)
def wsX5_append : List Cond := .code yX5_append cX5_append 2 none :: ([.fieldLink RX5 15 "ShameYards$Page" "size" "I", .fieldLink RX5 9 "ShameYards$Page" "codes" "[I"] ++ wsX50)
def wsX5_isDigit : List Cond := .code yX5_isDigit cX5_isDigit 5 (some .boolean) :: ([.methodLink RX5 19 yX5_codeAt, .instanceMethod yX5_codeAt, .selects RX5 yX5_codeAt yX5_codeAt, .initialized RX5, .code yX5_codeAt cX5_codeAt 2 (some .int), .fieldLink RX5 15 "ShameYards$Page" "size" "I", .fieldLink RX5 9 "ShameYards$Page" "codes" "[I"] ++ wsX50)
def wsX5_fitsPassage : List Cond := .code yX5_fitsPassage cX5_fitsPassage 3 (some .boolean) :: ([.methodLink RX5 52 yX5_digitAt, .instanceMethod yX5_digitAt, .selects RX5 yX5_digitAt yX5_digitAt, .initialized RX5, .code yX5_digitAt cX5_digitAt 2 (some .int), .methodLink RX5 19 yX5_codeAt, .instanceMethod yX5_codeAt, .selects RX5 yX5_codeAt yX5_codeAt, .code yX5_codeAt cX5_codeAt 2 (some .int), .fieldLink RX5 15 "ShameYards$Page" "size" "I", .fieldLink RX5 9 "ShameYards$Page" "codes" "[I", .methodLink RX5 41 yX5_isDigit, .instanceMethod yX5_isDigit, .selects RX5 yX5_isDigit yX5_isDigit, .code yX5_isDigit cX5_isDigit 5 (some .boolean)] ++ wsX50)
def wsX5_fitsPerson_r1 : List Cond := [Cond.methodLink RX5 55 yX5_kindAt, Cond.instanceMethod yX5_kindAt, Cond.selects RX5 yX5_kindAt yX5_kindAt, Cond.initialized RX5, Cond.code yX5_kindAt cX5_kindAt 2 (some .int), Cond.methodLink RX5 19 yX5_codeAt, Cond.instanceMethod yX5_codeAt, Cond.selects RX5 yX5_codeAt yX5_codeAt, Cond.code yX5_codeAt cX5_codeAt 2 (some .int), Cond.fieldLink RX5 15 "ShameYards$Page" "size" "I", Cond.fieldLink RX5 9 "ShameYards$Page" "codes" "[I", Cond.methodLink RX5 25 yJ0_indexOf_0f7a4, Cond.instanceMethod yJ0_indexOf_0f7a4, Cond.selects RJ0 yJ0_indexOf_0f7a4 yJ0_indexOf_0f7a4, Cond.initialized RJ0, Cond.code yJ0_indexOf_0f7a4 cJ0_indexOf_0f7a4 2 (some .int), Cond.methodLink RJ0 633 yJ0_indexOf_7cf53, Cond.instanceMethod yJ0_indexOf_7cf53, Cond.selects RJ0 yJ0_indexOf_7cf53 yJ0_indexOf_7cf53, Cond.code yJ0_indexOf_7cf53 cJ0_indexOf_7cf53 3 (some .int), Cond.fieldLink RJ0 9 "java/lang/String" "value" "[B", Cond.methodLink RJ0 492 yJ0_isLatin1_aae02, Cond.instanceMethod yJ0_isLatin1_aae02, Cond.selects RJ0 yJ0_isLatin1_aae02 yJ0_isLatin1_aae02]
def wsX5_fitsPerson_r2 : List Cond := [Cond.code yJ0_isLatin1_aae02 cJ0_isLatin1_aae02 1 (some .boolean), Cond.fieldLink RJ0 38 "java/lang/String" "COMPACT_STRINGS" "Z", Cond.fieldLink RJ0 15 "java/lang/String" "coder" "B", Cond.methodLink RJ0 505 yJ0_length_8abf5, Cond.instanceMethod yJ0_length_8abf5, Cond.selects RJ0 yJ0_length_8abf5 yJ0_length_8abf5, Cond.code yJ0_length_8abf5 cJ0_length_8abf5 1 (some .int), Cond.methodLink RJ0 335 yJ0_coder_7d493, Cond.instanceMethod yJ0_coder_7d493, Cond.selects RJ0 yJ0_coder_7d493 yJ0_coder_7d493, Cond.code yJ0_coder_7d493 cJ0_coder_7d493 1 (some .byte), Cond.methodLink RJ0 637 yJ1_indexOf_4cfef, Cond.static yJ1_indexOf_4cfef, Cond.initialized RJ1, Cond.code yJ1_indexOf_4cfef cJ1_indexOf_4cfef 4 (some .int), Cond.methodLink RJ1 92 Lib.Math.max.name, Cond.static Lib.Math.max.name, Cond.initialized "java/lang/Math", Cond.code Lib.Math.max.name Lib.Math.max.code 2 (some .int), Cond.methodLink RJ1 38 Lib.Math.min.name, Cond.static Lib.Math.min.name, Cond.code Lib.Math.min.name Lib.Math.min.code 2 (some .int), Cond.methodLink RJ1 88 yJ1_canEncode_9a6ad, Cond.static yJ1_canEncode_9a6ad]
def wsX5_fitsPerson_r3 : List Cond := [Cond.code yJ1_canEncode_9a6ad cJ1_canEncode_9a6ad 1 (some .boolean), Cond.methodLink RJ1 95 yJ1_indexOfChar_4cfef, Cond.static yJ1_indexOfChar_4cfef, Cond.code yJ1_indexOfChar_4cfef cJ1_indexOfChar_4cfef 6 (some .int), Cond.methodLink RJ0 640 yJ2_indexOf_4cfef, Cond.static yJ2_indexOf_4cfef, Cond.initialized RJ2, Cond.code yJ2_indexOf_4cfef cJ2_indexOf_4cfef 4 (some .int), Cond.methodLink RJ2 224 Lib.Math.max.name, Cond.methodLink RJ2 183 Lib.Math.min.name, Cond.constant RJ2 227 (65536), Cond.methodLink RJ2 228 yJ2_indexOfChar_4cfef, Cond.static yJ2_indexOfChar_4cfef, Cond.code yJ2_indexOfChar_4cfef cJ2_indexOfChar_4cfef 4 (some .int), Cond.methodLink RJ2 96 yJ2_checkBoundsBeginEnd_d044e, Cond.static yJ2_checkBoundsBeginEnd_d044e, Cond.code yJ2_checkBoundsBeginEnd_d044e cJ2_checkBoundsBeginEnd_d044e 3 none, Cond.methodLink RJ2 48 yJ2_length_9d52b, Cond.static yJ2_length_9d52b, Cond.code yJ2_length_9d52b cJ2_length_9d52b 1 (some .int), Cond.methodLink RJ2 241 yJ0_checkBoundsBeginEnd_23922, Cond.static yJ0_checkBoundsBeginEnd_23922, Cond.code yJ0_checkBoundsBeginEnd_23922 cJ0_checkBoundsBeginEnd_23922 3 none, Cond.fieldLink RJ0 1053 "jdk/internal/util/Preconditions" "SIOOBE_FORMATTER" "Ljava/util/function/BiFunction;"]
def wsX5_fitsPerson_r4 : List Cond := [Cond.methodLink RJ0 1062 yJ3_checkFromToIndex_8c36e, Cond.static yJ3_checkFromToIndex_8c36e, Cond.initialized RJ3, Cond.code yJ3_checkFromToIndex_8c36e cJ3_checkFromToIndex_8c36e 4 (some .int), Cond.methodLink RJ2 244 yJ2_indexOfCharUnsafe_4cfef, Cond.static yJ2_indexOfCharUnsafe_4cfef, Cond.code yJ2_indexOfCharUnsafe_4cfef cJ2_indexOfCharUnsafe_4cfef 5 (some .int), Cond.methodLink RJ2 71 yJ2_getChar_3b067, Cond.static yJ2_getChar_3b067, Cond.code yJ2_getChar_3b067 cJ2_getChar_3b067 2 (some .char), Cond.fieldLink RJ2 44 "java/lang/StringUTF16" "$assertionsDisabled" "Z", Cond.fieldLink RJ2 59 "java/lang/StringUTF16" "HI_BYTE_SHIFT" "I", Cond.fieldLink RJ2 63 "java/lang/StringUTF16" "LO_BYTE_SHIFT" "I", Cond.methodLink RJ2 232 yJ2_indexOfSupplementary_4cfef, Cond.static yJ2_indexOfSupplementary_4cfef, Cond.code yJ2_indexOfSupplementary_4cfef cJ2_indexOfSupplementary_4cfef 7 (some .int), Cond.methodLink RJ2 164 yJ11_isValidCodePoint_9a6ad, Cond.static yJ11_isValidCodePoint_9a6ad, Cond.initialized RJ11, Cond.code yJ11_isValidCodePoint_9a6ad cJ11_isValidCodePoint_9a6ad 2 (some .boolean), Cond.methodLink RJ2 157 yJ11_highSurrogate_5068e, Cond.static yJ11_highSurrogate_5068e, Cond.code yJ11_highSurrogate_5068e cJ11_highSurrogate_5068e 1 (some .char), Cond.constant RJ11 110 (55232)]
def wsX5_fitsPerson_r5 : List Cond := [Cond.methodLink RJ2 161 yJ11_lowSurrogate_5068e, Cond.static yJ11_lowSurrogate_5068e, Cond.code yJ11_lowSurrogate_5068e cJ11_lowSurrogate_5068e 1 (some .char), Cond.constant RJ11 76 (56320), Cond.methodLink RX5 41 yX5_isDigit, Cond.instanceMethod yX5_isDigit, Cond.selects RX5 yX5_isDigit yX5_isDigit, Cond.code yX5_isDigit cX5_isDigit 5 (some .boolean)]
def wsX5_fitsPerson : List Cond := .code yX5_fitsPerson cX5_fitsPerson 3 (some .boolean) :: ((wsX5_fitsPerson_r1 ++ (wsX5_fitsPerson_r2 ++ (wsX5_fitsPerson_r3 ++ (wsX5_fitsPerson_r4 ++ wsX5_fitsPerson_r5)))) ++ wsX50)
def wsX5_fits_r1 : List Cond := [Cond.methodLink RX5 41 yX5_isDigit, Cond.instanceMethod yX5_isDigit, Cond.selects RX5 yX5_isDigit yX5_isDigit, Cond.initialized RX5, Cond.code yX5_isDigit cX5_isDigit 5 (some .boolean), Cond.methodLink RX5 19 yX5_codeAt, Cond.instanceMethod yX5_codeAt, Cond.selects RX5 yX5_codeAt yX5_codeAt, Cond.code yX5_codeAt cX5_codeAt 2 (some .int), Cond.fieldLink RX5 15 "ShameYards$Page" "size" "I", Cond.fieldLink RX5 9 "ShameYards$Page" "codes" "[I", Cond.methodLink RX5 45 yX5_fitsPassage, Cond.instanceMethod yX5_fitsPassage, Cond.selects RX5 yX5_fitsPassage yX5_fitsPassage, Cond.code yX5_fitsPassage cX5_fitsPassage 3 (some .boolean), Cond.methodLink RX5 52 yX5_digitAt, Cond.instanceMethod yX5_digitAt, Cond.selects RX5 yX5_digitAt yX5_digitAt, Cond.code yX5_digitAt cX5_digitAt 2 (some .int), Cond.methodLink RX5 49 yX5_fitsPerson, Cond.instanceMethod yX5_fitsPerson, Cond.selects RX5 yX5_fitsPerson yX5_fitsPerson, Cond.code yX5_fitsPerson cX5_fitsPerson 3 (some .boolean), Cond.methodLink RX5 55 yX5_kindAt]
def wsX5_fits_r2 : List Cond := [Cond.instanceMethod yX5_kindAt, Cond.selects RX5 yX5_kindAt yX5_kindAt, Cond.code yX5_kindAt cX5_kindAt 2 (some .int), Cond.methodLink RX5 25 yJ0_indexOf_0f7a4, Cond.instanceMethod yJ0_indexOf_0f7a4, Cond.selects RJ0 yJ0_indexOf_0f7a4 yJ0_indexOf_0f7a4, Cond.initialized RJ0, Cond.code yJ0_indexOf_0f7a4 cJ0_indexOf_0f7a4 2 (some .int), Cond.methodLink RJ0 633 yJ0_indexOf_7cf53, Cond.instanceMethod yJ0_indexOf_7cf53, Cond.selects RJ0 yJ0_indexOf_7cf53 yJ0_indexOf_7cf53, Cond.code yJ0_indexOf_7cf53 cJ0_indexOf_7cf53 3 (some .int), Cond.fieldLink RJ0 9 "java/lang/String" "value" "[B", Cond.methodLink RJ0 492 yJ0_isLatin1_aae02, Cond.instanceMethod yJ0_isLatin1_aae02, Cond.selects RJ0 yJ0_isLatin1_aae02 yJ0_isLatin1_aae02, Cond.code yJ0_isLatin1_aae02 cJ0_isLatin1_aae02 1 (some .boolean), Cond.fieldLink RJ0 38 "java/lang/String" "COMPACT_STRINGS" "Z", Cond.fieldLink RJ0 15 "java/lang/String" "coder" "B", Cond.methodLink RJ0 505 yJ0_length_8abf5, Cond.instanceMethod yJ0_length_8abf5, Cond.selects RJ0 yJ0_length_8abf5 yJ0_length_8abf5, Cond.code yJ0_length_8abf5 cJ0_length_8abf5 1 (some .int), Cond.methodLink RJ0 335 yJ0_coder_7d493]
def wsX5_fits_r3 : List Cond := [Cond.instanceMethod yJ0_coder_7d493, Cond.selects RJ0 yJ0_coder_7d493 yJ0_coder_7d493, Cond.code yJ0_coder_7d493 cJ0_coder_7d493 1 (some .byte), Cond.methodLink RJ0 637 yJ1_indexOf_4cfef, Cond.static yJ1_indexOf_4cfef, Cond.initialized RJ1, Cond.code yJ1_indexOf_4cfef cJ1_indexOf_4cfef 4 (some .int), Cond.methodLink RJ1 92 Lib.Math.max.name, Cond.static Lib.Math.max.name, Cond.initialized "java/lang/Math", Cond.code Lib.Math.max.name Lib.Math.max.code 2 (some .int), Cond.methodLink RJ1 38 Lib.Math.min.name, Cond.static Lib.Math.min.name, Cond.code Lib.Math.min.name Lib.Math.min.code 2 (some .int), Cond.methodLink RJ1 88 yJ1_canEncode_9a6ad, Cond.static yJ1_canEncode_9a6ad, Cond.code yJ1_canEncode_9a6ad cJ1_canEncode_9a6ad 1 (some .boolean), Cond.methodLink RJ1 95 yJ1_indexOfChar_4cfef, Cond.static yJ1_indexOfChar_4cfef, Cond.code yJ1_indexOfChar_4cfef cJ1_indexOfChar_4cfef 6 (some .int), Cond.methodLink RJ0 640 yJ2_indexOf_4cfef, Cond.static yJ2_indexOf_4cfef, Cond.initialized RJ2, Cond.code yJ2_indexOf_4cfef cJ2_indexOf_4cfef 4 (some .int)]
def wsX5_fits_r4 : List Cond := [Cond.methodLink RJ2 224 Lib.Math.max.name, Cond.methodLink RJ2 183 Lib.Math.min.name, Cond.constant RJ2 227 (65536), Cond.methodLink RJ2 228 yJ2_indexOfChar_4cfef, Cond.static yJ2_indexOfChar_4cfef, Cond.code yJ2_indexOfChar_4cfef cJ2_indexOfChar_4cfef 4 (some .int), Cond.methodLink RJ2 96 yJ2_checkBoundsBeginEnd_d044e, Cond.static yJ2_checkBoundsBeginEnd_d044e, Cond.code yJ2_checkBoundsBeginEnd_d044e cJ2_checkBoundsBeginEnd_d044e 3 none, Cond.methodLink RJ2 48 yJ2_length_9d52b, Cond.static yJ2_length_9d52b, Cond.code yJ2_length_9d52b cJ2_length_9d52b 1 (some .int), Cond.methodLink RJ2 241 yJ0_checkBoundsBeginEnd_23922, Cond.static yJ0_checkBoundsBeginEnd_23922, Cond.code yJ0_checkBoundsBeginEnd_23922 cJ0_checkBoundsBeginEnd_23922 3 none, Cond.fieldLink RJ0 1053 "jdk/internal/util/Preconditions" "SIOOBE_FORMATTER" "Ljava/util/function/BiFunction;", Cond.methodLink RJ0 1062 yJ3_checkFromToIndex_8c36e, Cond.static yJ3_checkFromToIndex_8c36e, Cond.initialized RJ3, Cond.code yJ3_checkFromToIndex_8c36e cJ3_checkFromToIndex_8c36e 4 (some .int), Cond.methodLink RJ2 244 yJ2_indexOfCharUnsafe_4cfef, Cond.static yJ2_indexOfCharUnsafe_4cfef, Cond.code yJ2_indexOfCharUnsafe_4cfef cJ2_indexOfCharUnsafe_4cfef 5 (some .int), Cond.methodLink RJ2 71 yJ2_getChar_3b067]
def wsX5_fits_r5 : List Cond := [Cond.static yJ2_getChar_3b067, Cond.code yJ2_getChar_3b067 cJ2_getChar_3b067 2 (some .char), Cond.fieldLink RJ2 44 "java/lang/StringUTF16" "$assertionsDisabled" "Z", Cond.fieldLink RJ2 59 "java/lang/StringUTF16" "HI_BYTE_SHIFT" "I", Cond.fieldLink RJ2 63 "java/lang/StringUTF16" "LO_BYTE_SHIFT" "I", Cond.methodLink RJ2 232 yJ2_indexOfSupplementary_4cfef, Cond.static yJ2_indexOfSupplementary_4cfef, Cond.code yJ2_indexOfSupplementary_4cfef cJ2_indexOfSupplementary_4cfef 7 (some .int), Cond.methodLink RJ2 164 yJ11_isValidCodePoint_9a6ad, Cond.static yJ11_isValidCodePoint_9a6ad, Cond.initialized RJ11, Cond.code yJ11_isValidCodePoint_9a6ad cJ11_isValidCodePoint_9a6ad 2 (some .boolean), Cond.methodLink RJ2 157 yJ11_highSurrogate_5068e, Cond.static yJ11_highSurrogate_5068e, Cond.code yJ11_highSurrogate_5068e cJ11_highSurrogate_5068e 1 (some .char), Cond.constant RJ11 110 (55232), Cond.methodLink RJ2 161 yJ11_lowSurrogate_5068e, Cond.static yJ11_lowSurrogate_5068e, Cond.code yJ11_lowSurrogate_5068e cJ11_lowSurrogate_5068e 1 (some .char), Cond.constant RJ11 76 (56320)]
def wsX5_fits : List Cond := .code yX5_fits cX5_fits 3 (some .boolean) :: ((wsX5_fits_r1 ++ (wsX5_fits_r2 ++ (wsX5_fits_r3 ++ (wsX5_fits_r4 ++ wsX5_fits_r5)))) ++ wsX50)
def wsX5_firstFault_r1 : List Cond := [Cond.fieldLink RX5 15 "ShameYards$Page" "size" "I", Cond.methodLink RX5 30 yX5_border, Cond.instanceMethod yX5_border, Cond.selects RX5 yX5_border yX5_border, Cond.initialized RX5, Cond.code yX5_border cX5_border 2 (some .int), Cond.fieldLink RX5 9 "ShameYards$Page" "codes" "[I", Cond.methodLink RX5 34 yX5_fits, Cond.instanceMethod yX5_fits, Cond.selects RX5 yX5_fits yX5_fits, Cond.code yX5_fits cX5_fits 3 (some .boolean), Cond.methodLink RX5 41 yX5_isDigit, Cond.instanceMethod yX5_isDigit, Cond.selects RX5 yX5_isDigit yX5_isDigit, Cond.code yX5_isDigit cX5_isDigit 5 (some .boolean), Cond.methodLink RX5 19 yX5_codeAt, Cond.instanceMethod yX5_codeAt, Cond.selects RX5 yX5_codeAt yX5_codeAt, Cond.code yX5_codeAt cX5_codeAt 2 (some .int), Cond.methodLink RX5 45 yX5_fitsPassage, Cond.instanceMethod yX5_fitsPassage, Cond.selects RX5 yX5_fitsPassage yX5_fitsPassage, Cond.code yX5_fitsPassage cX5_fitsPassage 3 (some .boolean), Cond.methodLink RX5 52 yX5_digitAt]
def wsX5_firstFault_r2 : List Cond := [Cond.instanceMethod yX5_digitAt, Cond.selects RX5 yX5_digitAt yX5_digitAt, Cond.code yX5_digitAt cX5_digitAt 2 (some .int), Cond.methodLink RX5 49 yX5_fitsPerson, Cond.instanceMethod yX5_fitsPerson, Cond.selects RX5 yX5_fitsPerson yX5_fitsPerson, Cond.code yX5_fitsPerson cX5_fitsPerson 3 (some .boolean), Cond.methodLink RX5 55 yX5_kindAt, Cond.instanceMethod yX5_kindAt, Cond.selects RX5 yX5_kindAt yX5_kindAt, Cond.code yX5_kindAt cX5_kindAt 2 (some .int), Cond.methodLink RX5 25 yJ0_indexOf_0f7a4, Cond.instanceMethod yJ0_indexOf_0f7a4, Cond.selects RJ0 yJ0_indexOf_0f7a4 yJ0_indexOf_0f7a4, Cond.initialized RJ0, Cond.code yJ0_indexOf_0f7a4 cJ0_indexOf_0f7a4 2 (some .int), Cond.methodLink RJ0 633 yJ0_indexOf_7cf53, Cond.instanceMethod yJ0_indexOf_7cf53, Cond.selects RJ0 yJ0_indexOf_7cf53 yJ0_indexOf_7cf53, Cond.code yJ0_indexOf_7cf53 cJ0_indexOf_7cf53 3 (some .int), Cond.fieldLink RJ0 9 "java/lang/String" "value" "[B", Cond.methodLink RJ0 492 yJ0_isLatin1_aae02, Cond.instanceMethod yJ0_isLatin1_aae02, Cond.selects RJ0 yJ0_isLatin1_aae02 yJ0_isLatin1_aae02]
def wsX5_firstFault_r3 : List Cond := [Cond.code yJ0_isLatin1_aae02 cJ0_isLatin1_aae02 1 (some .boolean), Cond.fieldLink RJ0 38 "java/lang/String" "COMPACT_STRINGS" "Z", Cond.fieldLink RJ0 15 "java/lang/String" "coder" "B", Cond.methodLink RJ0 505 yJ0_length_8abf5, Cond.instanceMethod yJ0_length_8abf5, Cond.selects RJ0 yJ0_length_8abf5 yJ0_length_8abf5, Cond.code yJ0_length_8abf5 cJ0_length_8abf5 1 (some .int), Cond.methodLink RJ0 335 yJ0_coder_7d493, Cond.instanceMethod yJ0_coder_7d493, Cond.selects RJ0 yJ0_coder_7d493 yJ0_coder_7d493, Cond.code yJ0_coder_7d493 cJ0_coder_7d493 1 (some .byte), Cond.methodLink RJ0 637 yJ1_indexOf_4cfef, Cond.static yJ1_indexOf_4cfef, Cond.initialized RJ1, Cond.code yJ1_indexOf_4cfef cJ1_indexOf_4cfef 4 (some .int), Cond.methodLink RJ1 92 Lib.Math.max.name, Cond.static Lib.Math.max.name, Cond.initialized "java/lang/Math", Cond.code Lib.Math.max.name Lib.Math.max.code 2 (some .int), Cond.methodLink RJ1 38 Lib.Math.min.name, Cond.static Lib.Math.min.name, Cond.code Lib.Math.min.name Lib.Math.min.code 2 (some .int), Cond.methodLink RJ1 88 yJ1_canEncode_9a6ad, Cond.static yJ1_canEncode_9a6ad]
def wsX5_firstFault_r4 : List Cond := [Cond.code yJ1_canEncode_9a6ad cJ1_canEncode_9a6ad 1 (some .boolean), Cond.methodLink RJ1 95 yJ1_indexOfChar_4cfef, Cond.static yJ1_indexOfChar_4cfef, Cond.code yJ1_indexOfChar_4cfef cJ1_indexOfChar_4cfef 6 (some .int), Cond.methodLink RJ0 640 yJ2_indexOf_4cfef, Cond.static yJ2_indexOf_4cfef, Cond.initialized RJ2, Cond.code yJ2_indexOf_4cfef cJ2_indexOf_4cfef 4 (some .int), Cond.methodLink RJ2 224 Lib.Math.max.name, Cond.methodLink RJ2 183 Lib.Math.min.name, Cond.constant RJ2 227 (65536), Cond.methodLink RJ2 228 yJ2_indexOfChar_4cfef, Cond.static yJ2_indexOfChar_4cfef, Cond.code yJ2_indexOfChar_4cfef cJ2_indexOfChar_4cfef 4 (some .int), Cond.methodLink RJ2 96 yJ2_checkBoundsBeginEnd_d044e, Cond.static yJ2_checkBoundsBeginEnd_d044e, Cond.code yJ2_checkBoundsBeginEnd_d044e cJ2_checkBoundsBeginEnd_d044e 3 none, Cond.methodLink RJ2 48 yJ2_length_9d52b, Cond.static yJ2_length_9d52b, Cond.code yJ2_length_9d52b cJ2_length_9d52b 1 (some .int), Cond.methodLink RJ2 241 yJ0_checkBoundsBeginEnd_23922, Cond.static yJ0_checkBoundsBeginEnd_23922, Cond.code yJ0_checkBoundsBeginEnd_23922 cJ0_checkBoundsBeginEnd_23922 3 none, Cond.fieldLink RJ0 1053 "jdk/internal/util/Preconditions" "SIOOBE_FORMATTER" "Ljava/util/function/BiFunction;"]
def wsX5_firstFault_r5 : List Cond := [Cond.methodLink RJ0 1062 yJ3_checkFromToIndex_8c36e, Cond.static yJ3_checkFromToIndex_8c36e, Cond.initialized RJ3, Cond.code yJ3_checkFromToIndex_8c36e cJ3_checkFromToIndex_8c36e 4 (some .int), Cond.methodLink RJ2 244 yJ2_indexOfCharUnsafe_4cfef, Cond.static yJ2_indexOfCharUnsafe_4cfef, Cond.code yJ2_indexOfCharUnsafe_4cfef cJ2_indexOfCharUnsafe_4cfef 5 (some .int), Cond.methodLink RJ2 71 yJ2_getChar_3b067, Cond.static yJ2_getChar_3b067, Cond.code yJ2_getChar_3b067 cJ2_getChar_3b067 2 (some .char), Cond.fieldLink RJ2 44 "java/lang/StringUTF16" "$assertionsDisabled" "Z", Cond.fieldLink RJ2 59 "java/lang/StringUTF16" "HI_BYTE_SHIFT" "I", Cond.fieldLink RJ2 63 "java/lang/StringUTF16" "LO_BYTE_SHIFT" "I", Cond.methodLink RJ2 232 yJ2_indexOfSupplementary_4cfef, Cond.static yJ2_indexOfSupplementary_4cfef, Cond.code yJ2_indexOfSupplementary_4cfef cJ2_indexOfSupplementary_4cfef 7 (some .int), Cond.methodLink RJ2 164 yJ11_isValidCodePoint_9a6ad, Cond.static yJ11_isValidCodePoint_9a6ad, Cond.initialized RJ11, Cond.code yJ11_isValidCodePoint_9a6ad cJ11_isValidCodePoint_9a6ad 2 (some .boolean), Cond.methodLink RJ2 157 yJ11_highSurrogate_5068e, Cond.static yJ11_highSurrogate_5068e, Cond.code yJ11_highSurrogate_5068e cJ11_highSurrogate_5068e 1 (some .char), Cond.constant RJ11 110 (55232)]
def wsX5_firstFault_r6 : List Cond := [Cond.methodLink RJ2 161 yJ11_lowSurrogate_5068e, Cond.static yJ11_lowSurrogate_5068e, Cond.code yJ11_lowSurrogate_5068e cJ11_lowSurrogate_5068e 1 (some .char), Cond.constant RJ11 76 (56320)]
def wsX5_firstFault : List Cond := .code yX5_firstFault cX5_firstFault 3 (some .int) :: ((wsX5_firstFault_r1 ++ (wsX5_firstFault_r2 ++ (wsX5_firstFault_r3 ++ (wsX5_firstFault_r4 ++ (wsX5_firstFault_r5 ++ wsX5_firstFault_r6))))) ++ wsX50)
def wsX5_isWhole_r1 : List Cond := [Cond.fieldLink RX5 15 "ShameYards$Page" "size" "I", Cond.methodLink RX5 30 yX5_border, Cond.instanceMethod yX5_border, Cond.selects RX5 yX5_border yX5_border, Cond.initialized RX5, Cond.code yX5_border cX5_border 2 (some .int), Cond.fieldLink RX5 9 "ShameYards$Page" "codes" "[I", Cond.methodLink RX5 38 yX5_firstFault, Cond.instanceMethod yX5_firstFault, Cond.selects RX5 yX5_firstFault yX5_firstFault, Cond.code yX5_firstFault cX5_firstFault 3 (some .int), Cond.methodLink RX5 34 yX5_fits, Cond.instanceMethod yX5_fits, Cond.selects RX5 yX5_fits yX5_fits, Cond.code yX5_fits cX5_fits 3 (some .boolean), Cond.methodLink RX5 41 yX5_isDigit, Cond.instanceMethod yX5_isDigit, Cond.selects RX5 yX5_isDigit yX5_isDigit, Cond.code yX5_isDigit cX5_isDigit 5 (some .boolean), Cond.methodLink RX5 19 yX5_codeAt, Cond.instanceMethod yX5_codeAt, Cond.selects RX5 yX5_codeAt yX5_codeAt, Cond.code yX5_codeAt cX5_codeAt 2 (some .int), Cond.methodLink RX5 45 yX5_fitsPassage]
def wsX5_isWhole_r2 : List Cond := [Cond.instanceMethod yX5_fitsPassage, Cond.selects RX5 yX5_fitsPassage yX5_fitsPassage, Cond.code yX5_fitsPassage cX5_fitsPassage 3 (some .boolean), Cond.methodLink RX5 52 yX5_digitAt, Cond.instanceMethod yX5_digitAt, Cond.selects RX5 yX5_digitAt yX5_digitAt, Cond.code yX5_digitAt cX5_digitAt 2 (some .int), Cond.methodLink RX5 49 yX5_fitsPerson, Cond.instanceMethod yX5_fitsPerson, Cond.selects RX5 yX5_fitsPerson yX5_fitsPerson, Cond.code yX5_fitsPerson cX5_fitsPerson 3 (some .boolean), Cond.methodLink RX5 55 yX5_kindAt, Cond.instanceMethod yX5_kindAt, Cond.selects RX5 yX5_kindAt yX5_kindAt, Cond.code yX5_kindAt cX5_kindAt 2 (some .int), Cond.methodLink RX5 25 yJ0_indexOf_0f7a4, Cond.instanceMethod yJ0_indexOf_0f7a4, Cond.selects RJ0 yJ0_indexOf_0f7a4 yJ0_indexOf_0f7a4, Cond.initialized RJ0, Cond.code yJ0_indexOf_0f7a4 cJ0_indexOf_0f7a4 2 (some .int), Cond.methodLink RJ0 633 yJ0_indexOf_7cf53, Cond.instanceMethod yJ0_indexOf_7cf53, Cond.selects RJ0 yJ0_indexOf_7cf53 yJ0_indexOf_7cf53, Cond.code yJ0_indexOf_7cf53 cJ0_indexOf_7cf53 3 (some .int)]
def wsX5_isWhole_r3 : List Cond := [Cond.fieldLink RJ0 9 "java/lang/String" "value" "[B", Cond.methodLink RJ0 492 yJ0_isLatin1_aae02, Cond.instanceMethod yJ0_isLatin1_aae02, Cond.selects RJ0 yJ0_isLatin1_aae02 yJ0_isLatin1_aae02, Cond.code yJ0_isLatin1_aae02 cJ0_isLatin1_aae02 1 (some .boolean), Cond.fieldLink RJ0 38 "java/lang/String" "COMPACT_STRINGS" "Z", Cond.fieldLink RJ0 15 "java/lang/String" "coder" "B", Cond.methodLink RJ0 505 yJ0_length_8abf5, Cond.instanceMethod yJ0_length_8abf5, Cond.selects RJ0 yJ0_length_8abf5 yJ0_length_8abf5, Cond.code yJ0_length_8abf5 cJ0_length_8abf5 1 (some .int), Cond.methodLink RJ0 335 yJ0_coder_7d493, Cond.instanceMethod yJ0_coder_7d493, Cond.selects RJ0 yJ0_coder_7d493 yJ0_coder_7d493, Cond.code yJ0_coder_7d493 cJ0_coder_7d493 1 (some .byte), Cond.methodLink RJ0 637 yJ1_indexOf_4cfef, Cond.static yJ1_indexOf_4cfef, Cond.initialized RJ1, Cond.code yJ1_indexOf_4cfef cJ1_indexOf_4cfef 4 (some .int), Cond.methodLink RJ1 92 Lib.Math.max.name, Cond.static Lib.Math.max.name, Cond.initialized "java/lang/Math", Cond.code Lib.Math.max.name Lib.Math.max.code 2 (some .int), Cond.methodLink RJ1 38 Lib.Math.min.name]
def wsX5_isWhole_r4 : List Cond := [Cond.static Lib.Math.min.name, Cond.code Lib.Math.min.name Lib.Math.min.code 2 (some .int), Cond.methodLink RJ1 88 yJ1_canEncode_9a6ad, Cond.static yJ1_canEncode_9a6ad, Cond.code yJ1_canEncode_9a6ad cJ1_canEncode_9a6ad 1 (some .boolean), Cond.methodLink RJ1 95 yJ1_indexOfChar_4cfef, Cond.static yJ1_indexOfChar_4cfef, Cond.code yJ1_indexOfChar_4cfef cJ1_indexOfChar_4cfef 6 (some .int), Cond.methodLink RJ0 640 yJ2_indexOf_4cfef, Cond.static yJ2_indexOf_4cfef, Cond.initialized RJ2, Cond.code yJ2_indexOf_4cfef cJ2_indexOf_4cfef 4 (some .int), Cond.methodLink RJ2 224 Lib.Math.max.name, Cond.methodLink RJ2 183 Lib.Math.min.name, Cond.constant RJ2 227 (65536), Cond.methodLink RJ2 228 yJ2_indexOfChar_4cfef, Cond.static yJ2_indexOfChar_4cfef, Cond.code yJ2_indexOfChar_4cfef cJ2_indexOfChar_4cfef 4 (some .int), Cond.methodLink RJ2 96 yJ2_checkBoundsBeginEnd_d044e, Cond.static yJ2_checkBoundsBeginEnd_d044e, Cond.code yJ2_checkBoundsBeginEnd_d044e cJ2_checkBoundsBeginEnd_d044e 3 none, Cond.methodLink RJ2 48 yJ2_length_9d52b, Cond.static yJ2_length_9d52b, Cond.code yJ2_length_9d52b cJ2_length_9d52b 1 (some .int)]
def wsX5_isWhole_r5 : List Cond := [Cond.methodLink RJ2 241 yJ0_checkBoundsBeginEnd_23922, Cond.static yJ0_checkBoundsBeginEnd_23922, Cond.code yJ0_checkBoundsBeginEnd_23922 cJ0_checkBoundsBeginEnd_23922 3 none, Cond.fieldLink RJ0 1053 "jdk/internal/util/Preconditions" "SIOOBE_FORMATTER" "Ljava/util/function/BiFunction;", Cond.methodLink RJ0 1062 yJ3_checkFromToIndex_8c36e, Cond.static yJ3_checkFromToIndex_8c36e, Cond.initialized RJ3, Cond.code yJ3_checkFromToIndex_8c36e cJ3_checkFromToIndex_8c36e 4 (some .int), Cond.methodLink RJ2 244 yJ2_indexOfCharUnsafe_4cfef, Cond.static yJ2_indexOfCharUnsafe_4cfef, Cond.code yJ2_indexOfCharUnsafe_4cfef cJ2_indexOfCharUnsafe_4cfef 5 (some .int), Cond.methodLink RJ2 71 yJ2_getChar_3b067, Cond.static yJ2_getChar_3b067, Cond.code yJ2_getChar_3b067 cJ2_getChar_3b067 2 (some .char), Cond.fieldLink RJ2 44 "java/lang/StringUTF16" "$assertionsDisabled" "Z", Cond.fieldLink RJ2 59 "java/lang/StringUTF16" "HI_BYTE_SHIFT" "I", Cond.fieldLink RJ2 63 "java/lang/StringUTF16" "LO_BYTE_SHIFT" "I", Cond.methodLink RJ2 232 yJ2_indexOfSupplementary_4cfef, Cond.static yJ2_indexOfSupplementary_4cfef, Cond.code yJ2_indexOfSupplementary_4cfef cJ2_indexOfSupplementary_4cfef 7 (some .int), Cond.methodLink RJ2 164 yJ11_isValidCodePoint_9a6ad, Cond.static yJ11_isValidCodePoint_9a6ad, Cond.initialized RJ11, Cond.code yJ11_isValidCodePoint_9a6ad cJ11_isValidCodePoint_9a6ad 2 (some .boolean)]
def wsX5_isWhole_r6 : List Cond := [Cond.methodLink RJ2 157 yJ11_highSurrogate_5068e, Cond.static yJ11_highSurrogate_5068e, Cond.code yJ11_highSurrogate_5068e cJ11_highSurrogate_5068e 1 (some .char), Cond.constant RJ11 110 (55232), Cond.methodLink RJ2 161 yJ11_lowSurrogate_5068e, Cond.static yJ11_lowSurrogate_5068e, Cond.code yJ11_lowSurrogate_5068e cJ11_lowSurrogate_5068e 1 (some .char), Cond.constant RJ11 76 (56320)]
def wsX5_isWhole : List Cond := .code yX5_isWhole cX5_isWhole 2 (some .boolean) :: ((wsX5_isWhole_r1 ++ (wsX5_isWhole_r2 ++ (wsX5_isWhole_r3 ++ (wsX5_isWhole_r4 ++ (wsX5_isWhole_r5 ++ wsX5_isWhole_r6))))) ++ wsX50)
def wsX6_init : List Cond := .code yX6_init cX6_init 1 none :: ([.methodLink RX6 3 objectInit, .instanceMethod objectInit, .code objectInit ⟨#[0xb1]⟩ 1 none, .classLink RX6 9 "[[I", .arrayClass .int, .fieldLink RX6 11 "ShameYards$Pairing" "has" "[[I", .fieldLink RX6 16 "ShameYards$Pairing" "trial" "[I", .fieldLink RX6 20 "ShameYards$Pairing" "best" "[I"] ++ wsX60)
def wsX6_isBetter : List Cond := .code yX6_isBetter cX6_isBetter 3 (some .boolean) :: ([.fieldLink RX6 41 "ShameYards$Pairing" "leastMost" "I", .fieldLink RX6 44 "ShameYards$Pairing" "leastPairs" "I"] ++ wsX60)
def wsX6_keep : List Cond := .code yX6_keep cX6_keep 3 none :: ([.fieldLink RX6 41 "ShameYards$Pairing" "leastMost" "I", .fieldLink RX6 44 "ShameYards$Pairing" "leastPairs" "I", .fieldLink RX6 16 "ShameYards$Pairing" "trial" "[I", .fieldLink RX6 20 "ShameYards$Pairing" "best" "[I", .methodLink RX6 64 arraycopyName, .native arraycopyName, .static arraycopyName, .initialized "java/lang/System"] ++ wsX60)
def wsX6_arrangeFrom_r1 : List Cond := [Cond.fieldLink RX6 29 "ShameYards$Pairing" "people" "I", Cond.fieldLink RX6 16 "ShameYards$Pairing" "trial" "[I", Cond.fieldLink RX6 11 "ShameYards$Pairing" "has" "[[I", Cond.methodLink RX6 59 Lib.Math.max.name, Cond.static Lib.Math.max.name, Cond.initialized "java/lang/Math", Cond.code Lib.Math.max.name Lib.Math.max.code 2 (some .int), Cond.methodLink RX6 51 yX6_isBetter, Cond.instanceMethod yX6_isBetter, Cond.selects RX6 yX6_isBetter yX6_isBetter, Cond.initialized RX6, Cond.code yX6_isBetter cX6_isBetter 3 (some .boolean), Cond.fieldLink RX6 41 "ShameYards$Pairing" "leastMost" "I", Cond.fieldLink RX6 44 "ShameYards$Pairing" "leastPairs" "I", Cond.methodLink RX6 55 yX6_keep, Cond.instanceMethod yX6_keep, Cond.selects RX6 yX6_keep yX6_keep, Cond.code yX6_keep cX6_keep 3 none, Cond.fieldLink RX6 20 "ShameYards$Pairing" "best" "[I", Cond.methodLink RX6 64 arraycopyName, Cond.native arraycopyName, Cond.static arraycopyName, Cond.initialized "java/lang/System", Cond.methodLink RX6 47 yX6_arrangeFrom]
def wsX6_arrangeFrom_r2 : List Cond := [Cond.static yX6_arrangeFrom]
def wsX6_arrangeFrom : List Cond := .code yX6_arrangeFrom cX6_arrangeFrom 6 none :: ((wsX6_arrangeFrom_r1 ++ wsX6_arrangeFrom_r2) ++ wsX60)
def wsX6_arrange_r1 : List Cond := [Cond.fieldLink RX6 23 "ShameYards$House" "peopleCount" "I", Cond.fieldLink RX6 29 "ShameYards$Pairing" "people" "I", Cond.fieldLink RX6 11 "ShameYards$Pairing" "has" "[[I", Cond.constant RX6 40 (1000000), Cond.fieldLink RX6 41 "ShameYards$Pairing" "leastMost" "I", Cond.fieldLink RX6 44 "ShameYards$Pairing" "leastPairs" "I", Cond.methodLink RX6 32 yX2_aloneSteps, Cond.instanceMethod yX2_aloneSteps, Cond.selects RX2 yX2_aloneSteps yX2_aloneSteps, Cond.initialized RX2, Cond.code yX2_aloneSteps cX2_aloneSteps 3 (some .int), Cond.fieldLink RX2 37 "ShameYards$House" "lengths" "[I", Cond.fieldLink RX2 43 "ShameYards$House" "deeds" "[I", Cond.fieldLink RX2 46 "ShameYards$House" "lies" "[I", Cond.methodLink RX2 118 yX2_clerk, Cond.instanceMethod yX2_clerk, Cond.selects RX2 yX2_clerk yX2_clerk, Cond.code yX2_clerk cX2_clerk 2 (some (.object "ShameYards$Clerk")), Cond.fieldLink RX2 24 "ShameYards$House" "clerks" "[LShameYards$Clerk;", Cond.fieldLink RX2 40 "ShameYards$House" "kinds" "[I", Cond.methodLink RX2 122 ⟨"ShameYards$Clerk", "yards", "(III)I"⟩, Cond.sameMethod "ShameYards$Clerk" "ShameYards$Clerk" "yards" "(III)I", Cond.instanceMethod ⟨"ShameYards$Clerk", "yards", "(III)I"⟩, Cond.selects RX0 ⟨"ShameYards$Clerk", "yards", "(III)I"⟩ yX0_yards]
def wsX6_arrange_r2 : List Cond := [Cond.instanceMethod yX0_yards, Cond.initialized RX0, Cond.code yX0_yards cX0_yards 4 (some .int), Cond.methodLink RX0 7 yX1_yards, Cond.superclass RX0 RX1, Cond.instanceMethod yX1_yards, Cond.initialized RX1, Cond.code yX1_yards cX1_yards 4 (some .int), Cond.methodLink RX2 122 yX1_yards, Cond.selects RX1 yX1_yards yX1_yards, Cond.selects RX3 ⟨"ShameYards$Clerk", "yards", "(III)I"⟩ yX3_yards, Cond.instanceMethod yX3_yards, Cond.initialized RX3, Cond.code yX3_yards cX3_yards 4 (some .int), Cond.methodLink RX3 7 yX4_yards, Cond.sameMethod "ShameYards$Minister" "ShameYards$Minister" "yards" "(III)I", Cond.superclass RX3 RX4, Cond.instanceMethod yX4_yards, Cond.initialized RX4, Cond.code yX4_yards cX4_yards 4 (some .int), Cond.selects RX4 ⟨"ShameYards$Clerk", "yards", "(III)I"⟩ yX4_yards, Cond.selects RX10 ⟨"ShameYards$Clerk", "yards", "(III)I"⟩ yX10_yards, Cond.instanceMethod yX10_yards, Cond.initialized RX10]
def wsX6_arrange_r3 : List Cond := [Cond.code yX10_yards cX10_yards 4 (some .int), Cond.methodLink RX10 7 yX1_yards, Cond.superclass RX10 RX1, Cond.methodLink RX6 36 yX2_stepsOf, Cond.instanceMethod yX2_stepsOf, Cond.selects RX2 yX2_stepsOf yX2_stepsOf, Cond.code yX2_stepsOf cX2_stepsOf 4 (some .int), Cond.methodLink RX2 126 yX2_stepsWithLies, Cond.instanceMethod yX2_stepsWithLies, Cond.selects RX2 yX2_stepsWithLies yX2_stepsWithLies, Cond.code yX2_stepsWithLies cX2_stepsWithLies 7 (some .int), Cond.methodLink RX6 47 yX6_arrangeFrom, Cond.static yX6_arrangeFrom, Cond.initialized RX6, Cond.code yX6_arrangeFrom cX6_arrangeFrom 6 none, Cond.fieldLink RX6 16 "ShameYards$Pairing" "trial" "[I", Cond.methodLink RX6 59 Lib.Math.max.name, Cond.static Lib.Math.max.name, Cond.initialized "java/lang/Math", Cond.code Lib.Math.max.name Lib.Math.max.code 2 (some .int), Cond.methodLink RX6 51 yX6_isBetter, Cond.instanceMethod yX6_isBetter, Cond.selects RX6 yX6_isBetter yX6_isBetter, Cond.code yX6_isBetter cX6_isBetter 3 (some .boolean)]
def wsX6_arrange_r4 : List Cond := [Cond.methodLink RX6 55 yX6_keep, Cond.instanceMethod yX6_keep, Cond.selects RX6 yX6_keep yX6_keep, Cond.code yX6_keep cX6_keep 3 none, Cond.fieldLink RX6 20 "ShameYards$Pairing" "best" "[I", Cond.methodLink RX6 64 arraycopyName, Cond.native arraycopyName, Cond.static arraycopyName, Cond.initialized "java/lang/System"]
def wsX6_arrange : List Cond := .code yX6_arrange cX6_arrange 5 none :: ((wsX6_arrange_r1 ++ (wsX6_arrange_r2 ++ (wsX6_arrange_r3 ++ wsX6_arrange_r4))) ++ wsX20 ++ wsX60)
def wsX6_partnerOf : List Cond := .code yX6_partnerOf cX6_partnerOf 3 (some .int) :: ([.fieldLink RX6 20 "ShameYards$Pairing" "best" "[I", .methodLink RX6 70 yX2_hasPerson, .instanceMethod yX2_hasPerson, .selects RX2 yX2_hasPerson yX2_hasPerson, .initialized RX2, .code yX2_hasPerson cX2_hasPerson 2 (some .boolean), .fieldLink RX2 93 "ShameYards$House" "peopleCount" "I"] ++ wsX60 ++ wsX20)
def wsX7_isAsSeen_r1 : List Cond := [Cond.fieldLink RX7 15 "ShameYards$House" "seenCount" "I", Cond.fieldLink RX7 21 "ShameYards$House" "seenPerson" "[I", Cond.fieldLink RX7 25 "ShameYards$House" "seenSteps" "[I", Cond.fieldLink RX7 28 "ShameYards$House" "seenPassage" "[I", Cond.fieldLink RX7 31 "ShameYards$House" "seenWith" "[I", Cond.methodLink RX7 34 yX2_stepsWithLies, Cond.instanceMethod yX2_stepsWithLies, Cond.selects RX2 yX2_stepsWithLies yX2_stepsWithLies, Cond.initialized RX2, Cond.code yX2_stepsWithLies cX2_stepsWithLies 7 (some .int), Cond.fieldLink RX2 37 "ShameYards$House" "lengths" "[I", Cond.fieldLink RX2 43 "ShameYards$House" "deeds" "[I", Cond.fieldLink RX2 46 "ShameYards$House" "lies" "[I", Cond.methodLink RX2 118 yX2_clerk, Cond.instanceMethod yX2_clerk, Cond.selects RX2 yX2_clerk yX2_clerk, Cond.code yX2_clerk cX2_clerk 2 (some (.object "ShameYards$Clerk")), Cond.fieldLink RX2 24 "ShameYards$House" "clerks" "[LShameYards$Clerk;", Cond.fieldLink RX2 40 "ShameYards$House" "kinds" "[I", Cond.methodLink RX2 122 ⟨"ShameYards$Clerk", "yards", "(III)I"⟩, Cond.sameMethod "ShameYards$Clerk" "ShameYards$Clerk" "yards" "(III)I", Cond.instanceMethod ⟨"ShameYards$Clerk", "yards", "(III)I"⟩, Cond.selects RX0 ⟨"ShameYards$Clerk", "yards", "(III)I"⟩ yX0_yards, Cond.instanceMethod yX0_yards]
def wsX7_isAsSeen_r2 : List Cond := [Cond.initialized RX0, Cond.code yX0_yards cX0_yards 4 (some .int), Cond.methodLink RX0 7 yX1_yards, Cond.superclass RX0 RX1, Cond.instanceMethod yX1_yards, Cond.initialized RX1, Cond.code yX1_yards cX1_yards 4 (some .int), Cond.methodLink RX2 122 yX1_yards, Cond.selects RX1 yX1_yards yX1_yards, Cond.selects RX3 ⟨"ShameYards$Clerk", "yards", "(III)I"⟩ yX3_yards, Cond.instanceMethod yX3_yards, Cond.initialized RX3, Cond.code yX3_yards cX3_yards 4 (some .int), Cond.methodLink RX3 7 yX4_yards, Cond.sameMethod "ShameYards$Minister" "ShameYards$Minister" "yards" "(III)I", Cond.superclass RX3 RX4, Cond.instanceMethod yX4_yards, Cond.initialized RX4, Cond.code yX4_yards cX4_yards 4 (some .int), Cond.selects RX4 ⟨"ShameYards$Clerk", "yards", "(III)I"⟩ yX4_yards, Cond.selects RX10 ⟨"ShameYards$Clerk", "yards", "(III)I"⟩ yX10_yards, Cond.instanceMethod yX10_yards, Cond.initialized RX10, Cond.code yX10_yards cX10_yards 4 (some .int)]
def wsX7_isAsSeen_r3 : List Cond := [Cond.methodLink RX10 7 yX1_yards, Cond.superclass RX10 RX1]
def wsX7_isAsSeen : List Cond := .code yX7_isAsSeen cX7_isAsSeen 4 (some .boolean) :: ((wsX7_isAsSeen_r1 ++ (wsX7_isAsSeen_r2 ++ wsX7_isAsSeen_r3)) ++ wsX20)
def wsX7_possibleLies_r1 : List Cond := [Cond.methodLink RX7 9 yX7_isAsSeen, Cond.static yX7_isAsSeen, Cond.initialized RX7, Cond.code yX7_isAsSeen cX7_isAsSeen 4 (some .boolean), Cond.fieldLink RX7 15 "ShameYards$House" "seenCount" "I", Cond.fieldLink RX7 21 "ShameYards$House" "seenPerson" "[I", Cond.fieldLink RX7 25 "ShameYards$House" "seenSteps" "[I", Cond.fieldLink RX7 28 "ShameYards$House" "seenPassage" "[I", Cond.fieldLink RX7 31 "ShameYards$House" "seenWith" "[I", Cond.methodLink RX7 34 yX2_stepsWithLies, Cond.instanceMethod yX2_stepsWithLies, Cond.selects RX2 yX2_stepsWithLies yX2_stepsWithLies, Cond.initialized RX2, Cond.code yX2_stepsWithLies cX2_stepsWithLies 7 (some .int), Cond.fieldLink RX2 37 "ShameYards$House" "lengths" "[I", Cond.fieldLink RX2 43 "ShameYards$House" "deeds" "[I", Cond.fieldLink RX2 46 "ShameYards$House" "lies" "[I", Cond.methodLink RX2 118 yX2_clerk, Cond.instanceMethod yX2_clerk, Cond.selects RX2 yX2_clerk yX2_clerk, Cond.code yX2_clerk cX2_clerk 2 (some (.object "ShameYards$Clerk")), Cond.fieldLink RX2 24 "ShameYards$House" "clerks" "[LShameYards$Clerk;", Cond.fieldLink RX2 40 "ShameYards$House" "kinds" "[I", Cond.methodLink RX2 122 ⟨"ShameYards$Clerk", "yards", "(III)I"⟩]
def wsX7_possibleLies_r2 : List Cond := [Cond.sameMethod "ShameYards$Clerk" "ShameYards$Clerk" "yards" "(III)I", Cond.instanceMethod ⟨"ShameYards$Clerk", "yards", "(III)I"⟩, Cond.selects RX0 ⟨"ShameYards$Clerk", "yards", "(III)I"⟩ yX0_yards, Cond.instanceMethod yX0_yards, Cond.initialized RX0, Cond.code yX0_yards cX0_yards 4 (some .int), Cond.methodLink RX0 7 yX1_yards, Cond.superclass RX0 RX1, Cond.instanceMethod yX1_yards, Cond.initialized RX1, Cond.code yX1_yards cX1_yards 4 (some .int), Cond.methodLink RX2 122 yX1_yards, Cond.selects RX1 yX1_yards yX1_yards, Cond.selects RX3 ⟨"ShameYards$Clerk", "yards", "(III)I"⟩ yX3_yards, Cond.instanceMethod yX3_yards, Cond.initialized RX3, Cond.code yX3_yards cX3_yards 4 (some .int), Cond.methodLink RX3 7 yX4_yards, Cond.sameMethod "ShameYards$Minister" "ShameYards$Minister" "yards" "(III)I", Cond.superclass RX3 RX4, Cond.instanceMethod yX4_yards, Cond.initialized RX4, Cond.code yX4_yards cX4_yards 4 (some .int), Cond.selects RX4 ⟨"ShameYards$Clerk", "yards", "(III)I"⟩ yX4_yards]
def wsX7_possibleLies_r3 : List Cond := [Cond.selects RX10 ⟨"ShameYards$Clerk", "yards", "(III)I"⟩ yX10_yards, Cond.instanceMethod yX10_yards, Cond.initialized RX10, Cond.code yX10_yards cX10_yards 4 (some .int), Cond.methodLink RX10 7 yX1_yards, Cond.superclass RX10 RX1]
def wsX7_possibleLies : List Cond := .code yX7_possibleLies cX7_possibleLies 4 (some .int) :: ((wsX7_possibleLies_r1 ++ (wsX7_possibleLies_r2 ++ wsX7_possibleLies_r3)) ++ wsX20)
def wsX7_leftAtWorst_r1 : List Cond := [Cond.methodLink RX7 52 Lib.Math.max.name, Cond.static Lib.Math.max.name, Cond.initialized "java/lang/Math", Cond.code Lib.Math.max.name Lib.Math.max.code 2 (some .int), Cond.methodLink RX7 34 yX2_stepsWithLies, Cond.instanceMethod yX2_stepsWithLies, Cond.selects RX2 yX2_stepsWithLies yX2_stepsWithLies, Cond.initialized RX2, Cond.code yX2_stepsWithLies cX2_stepsWithLies 7 (some .int), Cond.fieldLink RX2 37 "ShameYards$House" "lengths" "[I", Cond.fieldLink RX2 43 "ShameYards$House" "deeds" "[I", Cond.fieldLink RX2 46 "ShameYards$House" "lies" "[I", Cond.methodLink RX2 118 yX2_clerk, Cond.instanceMethod yX2_clerk, Cond.selects RX2 yX2_clerk yX2_clerk, Cond.code yX2_clerk cX2_clerk 2 (some (.object "ShameYards$Clerk")), Cond.fieldLink RX2 24 "ShameYards$House" "clerks" "[LShameYards$Clerk;", Cond.fieldLink RX2 40 "ShameYards$House" "kinds" "[I", Cond.methodLink RX2 122 ⟨"ShameYards$Clerk", "yards", "(III)I"⟩, Cond.sameMethod "ShameYards$Clerk" "ShameYards$Clerk" "yards" "(III)I", Cond.instanceMethod ⟨"ShameYards$Clerk", "yards", "(III)I"⟩, Cond.selects RX0 ⟨"ShameYards$Clerk", "yards", "(III)I"⟩ yX0_yards, Cond.instanceMethod yX0_yards, Cond.initialized RX0]
def wsX7_leftAtWorst_r2 : List Cond := [Cond.code yX0_yards cX0_yards 4 (some .int), Cond.methodLink RX0 7 yX1_yards, Cond.superclass RX0 RX1, Cond.instanceMethod yX1_yards, Cond.initialized RX1, Cond.code yX1_yards cX1_yards 4 (some .int), Cond.methodLink RX2 122 yX1_yards, Cond.selects RX1 yX1_yards yX1_yards, Cond.selects RX3 ⟨"ShameYards$Clerk", "yards", "(III)I"⟩ yX3_yards, Cond.instanceMethod yX3_yards, Cond.initialized RX3, Cond.code yX3_yards cX3_yards 4 (some .int), Cond.methodLink RX3 7 yX4_yards, Cond.sameMethod "ShameYards$Minister" "ShameYards$Minister" "yards" "(III)I", Cond.superclass RX3 RX4, Cond.instanceMethod yX4_yards, Cond.initialized RX4, Cond.code yX4_yards cX4_yards 4 (some .int), Cond.selects RX4 ⟨"ShameYards$Clerk", "yards", "(III)I"⟩ yX4_yards, Cond.selects RX10 ⟨"ShameYards$Clerk", "yards", "(III)I"⟩ yX10_yards, Cond.instanceMethod yX10_yards, Cond.initialized RX10, Cond.code yX10_yards cX10_yards 4 (some .int), Cond.methodLink RX10 7 yX1_yards]
def wsX7_leftAtWorst_r3 : List Cond := [Cond.superclass RX10 RX1]
def wsX7_leftAtWorst : List Cond := .code yX7_leftAtWorst cX7_leftAtWorst 10 (some .int) :: ((wsX7_leftAtWorst_r1 ++ (wsX7_leftAtWorst_r2 ++ wsX7_leftAtWorst_r3)) ++ wsX20)
def wsX7_bestQuestion_r1 : List Cond := [Cond.fieldLink RX7 42 "ShameYards$House" "passageCount" "I", Cond.fieldLink RX7 45 "ShameYards$House" "peopleCount" "I", Cond.methodLink RX7 38 yX7_possibleLies, Cond.static yX7_possibleLies, Cond.initialized RX7, Cond.code yX7_possibleLies cX7_possibleLies 4 (some .int), Cond.methodLink RX7 9 yX7_isAsSeen, Cond.static yX7_isAsSeen, Cond.code yX7_isAsSeen cX7_isAsSeen 4 (some .boolean), Cond.fieldLink RX7 15 "ShameYards$House" "seenCount" "I", Cond.fieldLink RX7 21 "ShameYards$House" "seenPerson" "[I", Cond.fieldLink RX7 25 "ShameYards$House" "seenSteps" "[I", Cond.fieldLink RX7 28 "ShameYards$House" "seenPassage" "[I", Cond.fieldLink RX7 31 "ShameYards$House" "seenWith" "[I", Cond.methodLink RX7 34 yX2_stepsWithLies, Cond.instanceMethod yX2_stepsWithLies, Cond.selects RX2 yX2_stepsWithLies yX2_stepsWithLies, Cond.initialized RX2, Cond.code yX2_stepsWithLies cX2_stepsWithLies 7 (some .int), Cond.fieldLink RX2 37 "ShameYards$House" "lengths" "[I", Cond.fieldLink RX2 43 "ShameYards$House" "deeds" "[I", Cond.fieldLink RX2 46 "ShameYards$House" "lies" "[I", Cond.methodLink RX2 118 yX2_clerk, Cond.instanceMethod yX2_clerk]
def wsX7_bestQuestion_r2 : List Cond := [Cond.selects RX2 yX2_clerk yX2_clerk, Cond.code yX2_clerk cX2_clerk 2 (some (.object "ShameYards$Clerk")), Cond.fieldLink RX2 24 "ShameYards$House" "clerks" "[LShameYards$Clerk;", Cond.fieldLink RX2 40 "ShameYards$House" "kinds" "[I", Cond.methodLink RX2 122 ⟨"ShameYards$Clerk", "yards", "(III)I"⟩, Cond.sameMethod "ShameYards$Clerk" "ShameYards$Clerk" "yards" "(III)I", Cond.instanceMethod ⟨"ShameYards$Clerk", "yards", "(III)I"⟩, Cond.selects RX0 ⟨"ShameYards$Clerk", "yards", "(III)I"⟩ yX0_yards, Cond.instanceMethod yX0_yards, Cond.initialized RX0, Cond.code yX0_yards cX0_yards 4 (some .int), Cond.methodLink RX0 7 yX1_yards, Cond.superclass RX0 RX1, Cond.instanceMethod yX1_yards, Cond.initialized RX1, Cond.code yX1_yards cX1_yards 4 (some .int), Cond.methodLink RX2 122 yX1_yards, Cond.selects RX1 yX1_yards yX1_yards, Cond.selects RX3 ⟨"ShameYards$Clerk", "yards", "(III)I"⟩ yX3_yards, Cond.instanceMethod yX3_yards, Cond.initialized RX3, Cond.code yX3_yards cX3_yards 4 (some .int), Cond.methodLink RX3 7 yX4_yards, Cond.sameMethod "ShameYards$Minister" "ShameYards$Minister" "yards" "(III)I"]
def wsX7_bestQuestion_r3 : List Cond := [Cond.superclass RX3 RX4, Cond.instanceMethod yX4_yards, Cond.initialized RX4, Cond.code yX4_yards cX4_yards 4 (some .int), Cond.selects RX4 ⟨"ShameYards$Clerk", "yards", "(III)I"⟩ yX4_yards, Cond.selects RX10 ⟨"ShameYards$Clerk", "yards", "(III)I"⟩ yX10_yards, Cond.instanceMethod yX10_yards, Cond.initialized RX10, Cond.code yX10_yards cX10_yards 4 (some .int), Cond.methodLink RX10 7 yX1_yards, Cond.superclass RX10 RX1, Cond.methodLink RX7 48 yX7_leftAtWorst, Cond.static yX7_leftAtWorst, Cond.code yX7_leftAtWorst cX7_leftAtWorst 10 (some .int), Cond.methodLink RX7 52 Lib.Math.max.name, Cond.static Lib.Math.max.name, Cond.initialized "java/lang/Math", Cond.code Lib.Math.max.name Lib.Math.max.code 2 (some .int)]
def wsX7_bestQuestion : List Cond := .code yX7_bestQuestion cX7_bestQuestion 8 (some .int) :: ((wsX7_bestQuestion_r1 ++ (wsX7_bestQuestion_r2 ++ wsX7_bestQuestion_r3)) ++ wsX20)
def wsX8_init_r1 : List Cond := [Cond.methodLink RX8 3 objectInit, Cond.instanceMethod objectInit, Cond.code objectInit ⟨#[0xb1]⟩ 1 none, Cond.arrayClass .long, Cond.fieldLink RX8 9 "ShameYards$Wander" "chancesOfA" "[J", Cond.fieldLink RX8 15 "ShameYards$Wander" "chancesOfB" "[J", Cond.fieldLink RX8 18 "ShameYards$Wander" "next" "[J", Cond.classLink RX8 21 RX2, Cond.instantiable RX2 18, Cond.initialized RX2, Cond.fieldLink RX8 24 "ShameYards$Wander" "dreamt" "LShameYards$House;", Cond.fieldLink RX8 28 "ShameYards$Wander" "below" "J", Cond.instanceMethod yX2_init, Cond.code yX2_init cX2_init 1 none, Cond.methodLink RX2 3 objectInit, Cond.classLink RX2 9 RX1, Cond.instantiable RX1 0, Cond.initialized RX1, Cond.classLink RX2 12 RX0, Cond.instantiable RX0 0, Cond.initialized RX0, Cond.classLink RX2 15 RX4, Cond.instantiable RX4 0, Cond.initialized RX4]
def wsX8_init_r2 : List Cond := [Cond.classLink RX2 18 RX10, Cond.instantiable RX10 0, Cond.initialized RX10, Cond.classLink RX2 21 RX3, Cond.instantiable RX3 0, Cond.initialized RX3, Cond.fieldLink RX2 24 "ShameYards$House" "clerks" "[LShameYards$Clerk;", Cond.arrayClass .int, Cond.fieldLink RX2 30 "ShameYards$House" "oneEnd" "[I", Cond.fieldLink RX2 34 "ShameYards$House" "otherEnd" "[I", Cond.fieldLink RX2 37 "ShameYards$House" "lengths" "[I", Cond.fieldLink RX2 40 "ShameYards$House" "kinds" "[I", Cond.fieldLink RX2 43 "ShameYards$House" "deeds" "[I", Cond.fieldLink RX2 46 "ShameYards$House" "lies" "[I", Cond.fieldLink RX2 49 "ShameYards$House" "places" "[I", Cond.fieldLink RX2 52 "ShameYards$House" "taken" "[I", Cond.fieldLink RX2 55 "ShameYards$House" "seenPerson" "[I", Cond.fieldLink RX2 58 "ShameYards$House" "seenPassage" "[I", Cond.fieldLink RX2 61 "ShameYards$House" "seenWith" "[I", Cond.fieldLink RX2 64 "ShameYards$House" "seenSteps" "[I", Cond.instanceMethod yX1_init, Cond.code yX1_init cX1_init 1 none, Cond.methodLink RX1 1 objectInit, Cond.instanceMethod yX0_init]
def wsX8_init_r3 : List Cond := [Cond.code yX0_init cX0_init 1 none, Cond.instanceMethod yX4_init, Cond.code yX4_init cX4_init 1 none, Cond.instanceMethod yX10_init, Cond.code yX10_init cX10_init 1 none, Cond.instanceMethod yX3_init, Cond.code yX3_init cX3_init 1 none]
def wsX8_init : List Cond := .code yX8_init cX8_init 1 none :: ((wsX8_init_r1 ++ (wsX8_init_r2 ++ wsX8_init_r3)) ++ wsX80 ++ wsX20 ++ wsX10 ++ wsX00 ++ wsX40 ++ wsX100 ++ wsX30)
def wsJ7_fill_d0a16 : List Cond := .code yJ7_fill_d0a16 cJ7_fill_d0a16 5 none :: ([])
def wsX8_shareOut : List Cond := .code yX8_shareOut cX8_shareOut 9 none :: ([.fieldLink RX8 18 "ShameYards$Wander" "next" "[J", .constantLong RX8 73 (420), .fieldLink RX8 75 "ShameYards$House" "passageCount" "I", .methodLink RX8 69 yX2_doorsOf, .instanceMethod yX2_doorsOf, .selects RX2 yX2_doorsOf yX2_doorsOf, .initialized RX2, .code yX2_doorsOf cX2_doorsOf 4 (some .int), .fieldLink RX2 87 "ShameYards$House" "passageCount" "I", .methodLink RX2 130 yX2_endsAt, .instanceMethod yX2_endsAt, .selects RX2 yX2_endsAt yX2_endsAt, .code yX2_endsAt cX2_endsAt 3 (some .boolean), .fieldLink RX2 30 "ShameYards$House" "oneEnd" "[I", .fieldLink RX2 34 "ShameYards$House" "otherEnd" "[I", .methodLink RX8 78 yX2_endsAt, .methodLink RX8 82 yX2_across, .instanceMethod yX2_across, .selects RX2 yX2_across yX2_across, .code yX2_across cX2_across 3 (some .int)] ++ wsX80 ++ wsX20)
def wsX8_spread_r1 : List Cond := [Cond.fieldLink RX8 18 "ShameYards$Wander" "next" "[J", Cond.fieldLink RX8 43 "ShameYards$House" "roomCount" "I", Cond.methodLink RX8 63 arraycopyName, Cond.native arraycopyName, Cond.static arraycopyName, Cond.initialized "java/lang/System", Cond.methodLink RX8 53 yJ7_fill_d0a16, Cond.static yJ7_fill_d0a16, Cond.initialized RJ7, Cond.code yJ7_fill_d0a16 cJ7_fill_d0a16 5 none, Cond.methodLink RX8 59 yX8_shareOut, Cond.instanceMethod yX8_shareOut, Cond.selects RX8 yX8_shareOut yX8_shareOut, Cond.initialized RX8, Cond.code yX8_shareOut cX8_shareOut 9 none, Cond.constantLong RX8 73 (420), Cond.fieldLink RX8 75 "ShameYards$House" "passageCount" "I", Cond.methodLink RX8 69 yX2_doorsOf, Cond.instanceMethod yX2_doorsOf, Cond.selects RX2 yX2_doorsOf yX2_doorsOf, Cond.initialized RX2, Cond.code yX2_doorsOf cX2_doorsOf 4 (some .int), Cond.fieldLink RX2 87 "ShameYards$House" "passageCount" "I", Cond.methodLink RX2 130 yX2_endsAt]
def wsX8_spread_r2 : List Cond := [Cond.instanceMethod yX2_endsAt, Cond.selects RX2 yX2_endsAt yX2_endsAt, Cond.code yX2_endsAt cX2_endsAt 3 (some .boolean), Cond.fieldLink RX2 30 "ShameYards$House" "oneEnd" "[I", Cond.fieldLink RX2 34 "ShameYards$House" "otherEnd" "[I", Cond.methodLink RX8 78 yX2_endsAt, Cond.methodLink RX8 82 yX2_across, Cond.instanceMethod yX2_across, Cond.selects RX2 yX2_across yX2_across, Cond.code yX2_across cX2_across 3 (some .int)]
def wsX8_spread : List Cond := .code yX8_spread cX8_spread 7 none :: ((wsX8_spread_r1 ++ wsX8_spread_r2) ++ wsX80 ++ wsX20)
def wsX8_commonDivisor : List Cond := .code yX8_commonDivisor cX8_commonDivisor 11 (some .long) :: ([])
def wsX8_compare_r1 : List Cond := [Cond.fieldLink RX8 32 "ShameYards$House" "places" "[I", Cond.fieldLink RX8 9 "ShameYards$Wander" "chancesOfA" "[J", Cond.fieldLink RX8 15 "ShameYards$Wander" "chancesOfB" "[J", Cond.fieldLink RX8 40 "ShameYards$Wander" "above" "J", Cond.fieldLink RX8 43 "ShameYards$House" "roomCount" "I", Cond.fieldLink RX8 28 "ShameYards$Wander" "below" "J", Cond.constantLong RX8 47 (176400), Cond.methodLink RX8 36 yX8_spread, Cond.instanceMethod yX8_spread, Cond.selects RX8 yX8_spread yX8_spread, Cond.initialized RX8, Cond.code yX8_spread cX8_spread 7 none, Cond.fieldLink RX8 18 "ShameYards$Wander" "next" "[J", Cond.methodLink RX8 63 arraycopyName, Cond.native arraycopyName, Cond.static arraycopyName, Cond.initialized "java/lang/System", Cond.methodLink RX8 53 yJ7_fill_d0a16, Cond.static yJ7_fill_d0a16, Cond.initialized RJ7, Cond.code yJ7_fill_d0a16 cJ7_fill_d0a16 5 none, Cond.methodLink RX8 59 yX8_shareOut, Cond.instanceMethod yX8_shareOut, Cond.selects RX8 yX8_shareOut yX8_shareOut]
def wsX8_compare_r2 : List Cond := [Cond.code yX8_shareOut cX8_shareOut 9 none, Cond.constantLong RX8 73 (420), Cond.fieldLink RX8 75 "ShameYards$House" "passageCount" "I", Cond.methodLink RX8 69 yX2_doorsOf, Cond.instanceMethod yX2_doorsOf, Cond.selects RX2 yX2_doorsOf yX2_doorsOf, Cond.initialized RX2, Cond.code yX2_doorsOf cX2_doorsOf 4 (some .int), Cond.fieldLink RX2 87 "ShameYards$House" "passageCount" "I", Cond.methodLink RX2 130 yX2_endsAt, Cond.instanceMethod yX2_endsAt, Cond.selects RX2 yX2_endsAt yX2_endsAt, Cond.code yX2_endsAt cX2_endsAt 3 (some .boolean), Cond.fieldLink RX2 30 "ShameYards$House" "oneEnd" "[I", Cond.fieldLink RX2 34 "ShameYards$House" "otherEnd" "[I", Cond.methodLink RX8 78 yX2_endsAt, Cond.methodLink RX8 82 yX2_across, Cond.instanceMethod yX2_across, Cond.selects RX2 yX2_across yX2_across, Cond.code yX2_across cX2_across 3 (some .int), Cond.methodLink RX8 49 yX8_commonDivisor, Cond.static yX8_commonDivisor, Cond.code yX8_commonDivisor cX8_commonDivisor 11 (some .long)]
def wsX8_compare : List Cond := .code yX8_compare cX8_compare 7 none :: ((wsX8_compare_r1 ++ wsX8_compare_r2) ++ wsX20 ++ wsX80)
def wsX8_draw : List Cond := .code yX8_draw cX8_draw 2 (some .int) :: ([.constantLong RX8 115 (1103515245), .fieldLink RX8 90 "ShameYards$Wander" "seed" "I", .constantLong RX8 117 (12345), .constantLong RX8 119 (2147483647), .constant RX8 121 (65536)] ++ wsX80)
def wsX8_dreamOfOne_r1 : List Cond := [Cond.fieldLink RX8 24 "ShameYards$Wander" "dreamt" "LShameYards$House;", Cond.fieldLink RX8 99 "ShameYards$House" "peopleCount" "I", Cond.fieldLink RX8 32 "ShameYards$House" "places" "[I", Cond.fieldLink RX8 93 "ShameYards$Wander" "dreamtSteps" "I", Cond.fieldLink RX8 112 "ShameYards$House" "lies" "[I", Cond.methodLink RX8 102 yX8_draw, Cond.instanceMethod yX8_draw, Cond.selects RX8 yX8_draw yX8_draw, Cond.initialized RX8, Cond.code yX8_draw cX8_draw 2 (some .int), Cond.constantLong RX8 115 (1103515245), Cond.fieldLink RX8 90 "ShameYards$Wander" "seed" "I", Cond.constantLong RX8 117 (12345), Cond.constantLong RX8 119 (2147483647), Cond.constant RX8 121 (65536), Cond.methodLink RX8 69 yX2_doorsOf, Cond.instanceMethod yX2_doorsOf, Cond.selects RX2 yX2_doorsOf yX2_doorsOf, Cond.initialized RX2, Cond.code yX2_doorsOf cX2_doorsOf 4 (some .int), Cond.fieldLink RX2 87 "ShameYards$House" "passageCount" "I", Cond.methodLink RX2 130 yX2_endsAt, Cond.instanceMethod yX2_endsAt, Cond.selects RX2 yX2_endsAt yX2_endsAt]
def wsX8_dreamOfOne_r2 : List Cond := [Cond.code yX2_endsAt cX2_endsAt 3 (some .boolean), Cond.fieldLink RX2 30 "ShameYards$House" "oneEnd" "[I", Cond.fieldLink RX2 34 "ShameYards$House" "otherEnd" "[I", Cond.methodLink RX8 105 yX2_doorOf, Cond.instanceMethod yX2_doorOf, Cond.selects RX2 yX2_doorOf yX2_doorOf, Cond.code yX2_doorOf cX2_doorOf 5 (some .int), Cond.methodLink RX8 108 yX2_walk, Cond.instanceMethod yX2_walk, Cond.selects RX2 yX2_walk yX2_walk, Cond.code yX2_walk cX2_walk 6 (some .int), Cond.fieldLink RX2 49 "ShameYards$House" "places" "[I", Cond.fieldLink RX2 52 "ShameYards$House" "taken" "[I", Cond.fieldLink RX2 99 "ShameYards$House" "walksTogether" "I", Cond.methodLink RX2 134 yX2_stepsOf, Cond.instanceMethod yX2_stepsOf, Cond.selects RX2 yX2_stepsOf yX2_stepsOf, Cond.code yX2_stepsOf cX2_stepsOf 4 (some .int), Cond.fieldLink RX2 46 "ShameYards$House" "lies" "[I", Cond.methodLink RX2 126 yX2_stepsWithLies, Cond.instanceMethod yX2_stepsWithLies, Cond.selects RX2 yX2_stepsWithLies yX2_stepsWithLies, Cond.code yX2_stepsWithLies cX2_stepsWithLies 7 (some .int), Cond.fieldLink RX2 37 "ShameYards$House" "lengths" "[I"]
def wsX8_dreamOfOne_r3 : List Cond := [Cond.fieldLink RX2 43 "ShameYards$House" "deeds" "[I", Cond.methodLink RX2 118 yX2_clerk, Cond.instanceMethod yX2_clerk, Cond.selects RX2 yX2_clerk yX2_clerk, Cond.code yX2_clerk cX2_clerk 2 (some (.object "ShameYards$Clerk")), Cond.fieldLink RX2 24 "ShameYards$House" "clerks" "[LShameYards$Clerk;", Cond.fieldLink RX2 40 "ShameYards$House" "kinds" "[I", Cond.methodLink RX2 122 ⟨"ShameYards$Clerk", "yards", "(III)I"⟩, Cond.sameMethod "ShameYards$Clerk" "ShameYards$Clerk" "yards" "(III)I", Cond.instanceMethod ⟨"ShameYards$Clerk", "yards", "(III)I"⟩, Cond.selects RX0 ⟨"ShameYards$Clerk", "yards", "(III)I"⟩ yX0_yards, Cond.instanceMethod yX0_yards, Cond.initialized RX0, Cond.code yX0_yards cX0_yards 4 (some .int), Cond.methodLink RX0 7 yX1_yards, Cond.superclass RX0 RX1, Cond.instanceMethod yX1_yards, Cond.initialized RX1, Cond.code yX1_yards cX1_yards 4 (some .int), Cond.methodLink RX2 122 yX1_yards, Cond.selects RX1 yX1_yards yX1_yards, Cond.selects RX3 ⟨"ShameYards$Clerk", "yards", "(III)I"⟩ yX3_yards, Cond.instanceMethod yX3_yards, Cond.initialized RX3]
def wsX8_dreamOfOne_r4 : List Cond := [Cond.code yX3_yards cX3_yards 4 (some .int), Cond.methodLink RX3 7 yX4_yards, Cond.sameMethod "ShameYards$Minister" "ShameYards$Minister" "yards" "(III)I", Cond.superclass RX3 RX4, Cond.instanceMethod yX4_yards, Cond.initialized RX4, Cond.code yX4_yards cX4_yards 4 (some .int), Cond.selects RX4 ⟨"ShameYards$Clerk", "yards", "(III)I"⟩ yX4_yards, Cond.selects RX10 ⟨"ShameYards$Clerk", "yards", "(III)I"⟩ yX10_yards, Cond.instanceMethod yX10_yards, Cond.initialized RX10, Cond.code yX10_yards cX10_yards 4 (some .int), Cond.methodLink RX10 7 yX1_yards, Cond.superclass RX10 RX1, Cond.methodLink RX2 137 yX2_across, Cond.instanceMethod yX2_across, Cond.selects RX2 yX2_across yX2_across, Cond.code yX2_across cX2_across 3 (some .int)]
def wsX8_dreamOfOne : List Cond := .code yX8_dreamOfOne cX8_dreamOfOne 5 none :: ((wsX8_dreamOfOne_r1 ++ (wsX8_dreamOfOne_r2 ++ (wsX8_dreamOfOne_r3 ++ wsX8_dreamOfOne_r4))) ++ wsX80 ++ wsX20)
def wsX8_dream_r1 : List Cond := [Cond.fieldLink RX8 24 "ShameYards$Wander" "dreamt" "LShameYards$House;", Cond.fieldLink RX8 90 "ShameYards$Wander" "seed" "I", Cond.fieldLink RX8 93 "ShameYards$Wander" "dreamtSteps" "I", Cond.methodLink RX8 86 yX2_copyFrom, Cond.instanceMethod yX2_copyFrom, Cond.selects RX2 yX2_copyFrom yX2_copyFrom, Cond.initialized RX2, Cond.code yX2_copyFrom cX2_copyFrom 2 none, Cond.fieldLink RX2 77 "ShameYards$House" "roomCount" "I", Cond.fieldLink RX2 87 "ShameYards$House" "passageCount" "I", Cond.fieldLink RX2 93 "ShameYards$House" "peopleCount" "I", Cond.fieldLink RX2 99 "ShameYards$House" "walksTogether" "I", Cond.fieldLink RX2 102 "ShameYards$House" "seenCount" "I", Cond.fieldLink RX2 30 "ShameYards$House" "oneEnd" "[I", Cond.methodLink RX2 105 arraycopyName, Cond.native arraycopyName, Cond.static arraycopyName, Cond.initialized "java/lang/System", Cond.fieldLink RX2 34 "ShameYards$House" "otherEnd" "[I", Cond.fieldLink RX2 37 "ShameYards$House" "lengths" "[I", Cond.fieldLink RX2 40 "ShameYards$House" "kinds" "[I", Cond.fieldLink RX2 43 "ShameYards$House" "deeds" "[I", Cond.fieldLink RX2 46 "ShameYards$House" "lies" "[I", Cond.fieldLink RX2 49 "ShameYards$House" "places" "[I"]
def wsX8_dream_r2 : List Cond := [Cond.fieldLink RX2 52 "ShameYards$House" "taken" "[I", Cond.fieldLink RX2 55 "ShameYards$House" "seenPerson" "[I", Cond.fieldLink RX2 58 "ShameYards$House" "seenPassage" "[I", Cond.fieldLink RX2 61 "ShameYards$House" "seenWith" "[I", Cond.fieldLink RX2 64 "ShameYards$House" "seenSteps" "[I", Cond.methodLink RX8 96 yX8_dreamOfOne, Cond.instanceMethod yX8_dreamOfOne, Cond.selects RX8 yX8_dreamOfOne yX8_dreamOfOne, Cond.initialized RX8, Cond.code yX8_dreamOfOne cX8_dreamOfOne 5 none, Cond.fieldLink RX8 99 "ShameYards$House" "peopleCount" "I", Cond.fieldLink RX8 32 "ShameYards$House" "places" "[I", Cond.fieldLink RX8 112 "ShameYards$House" "lies" "[I", Cond.methodLink RX8 102 yX8_draw, Cond.instanceMethod yX8_draw, Cond.selects RX8 yX8_draw yX8_draw, Cond.code yX8_draw cX8_draw 2 (some .int), Cond.constantLong RX8 115 (1103515245), Cond.constantLong RX8 117 (12345), Cond.constantLong RX8 119 (2147483647), Cond.constant RX8 121 (65536), Cond.methodLink RX8 69 yX2_doorsOf, Cond.instanceMethod yX2_doorsOf, Cond.selects RX2 yX2_doorsOf yX2_doorsOf]
def wsX8_dream_r3 : List Cond := [Cond.code yX2_doorsOf cX2_doorsOf 4 (some .int), Cond.methodLink RX2 130 yX2_endsAt, Cond.instanceMethod yX2_endsAt, Cond.selects RX2 yX2_endsAt yX2_endsAt, Cond.code yX2_endsAt cX2_endsAt 3 (some .boolean), Cond.methodLink RX8 105 yX2_doorOf, Cond.instanceMethod yX2_doorOf, Cond.selects RX2 yX2_doorOf yX2_doorOf, Cond.code yX2_doorOf cX2_doorOf 5 (some .int), Cond.methodLink RX8 108 yX2_walk, Cond.instanceMethod yX2_walk, Cond.selects RX2 yX2_walk yX2_walk, Cond.code yX2_walk cX2_walk 6 (some .int), Cond.methodLink RX2 134 yX2_stepsOf, Cond.instanceMethod yX2_stepsOf, Cond.selects RX2 yX2_stepsOf yX2_stepsOf, Cond.code yX2_stepsOf cX2_stepsOf 4 (some .int), Cond.methodLink RX2 126 yX2_stepsWithLies, Cond.instanceMethod yX2_stepsWithLies, Cond.selects RX2 yX2_stepsWithLies yX2_stepsWithLies, Cond.code yX2_stepsWithLies cX2_stepsWithLies 7 (some .int), Cond.methodLink RX2 118 yX2_clerk, Cond.instanceMethod yX2_clerk, Cond.selects RX2 yX2_clerk yX2_clerk]
def wsX8_dream_r4 : List Cond := [Cond.code yX2_clerk cX2_clerk 2 (some (.object "ShameYards$Clerk")), Cond.fieldLink RX2 24 "ShameYards$House" "clerks" "[LShameYards$Clerk;", Cond.methodLink RX2 122 ⟨"ShameYards$Clerk", "yards", "(III)I"⟩, Cond.sameMethod "ShameYards$Clerk" "ShameYards$Clerk" "yards" "(III)I", Cond.instanceMethod ⟨"ShameYards$Clerk", "yards", "(III)I"⟩, Cond.selects RX0 ⟨"ShameYards$Clerk", "yards", "(III)I"⟩ yX0_yards, Cond.instanceMethod yX0_yards, Cond.initialized RX0, Cond.code yX0_yards cX0_yards 4 (some .int), Cond.methodLink RX0 7 yX1_yards, Cond.superclass RX0 RX1, Cond.instanceMethod yX1_yards, Cond.initialized RX1, Cond.code yX1_yards cX1_yards 4 (some .int), Cond.methodLink RX2 122 yX1_yards, Cond.selects RX1 yX1_yards yX1_yards, Cond.selects RX3 ⟨"ShameYards$Clerk", "yards", "(III)I"⟩ yX3_yards, Cond.instanceMethod yX3_yards, Cond.initialized RX3, Cond.code yX3_yards cX3_yards 4 (some .int), Cond.methodLink RX3 7 yX4_yards, Cond.sameMethod "ShameYards$Minister" "ShameYards$Minister" "yards" "(III)I", Cond.superclass RX3 RX4, Cond.instanceMethod yX4_yards]
def wsX8_dream_r5 : List Cond := [Cond.initialized RX4, Cond.code yX4_yards cX4_yards 4 (some .int), Cond.selects RX4 ⟨"ShameYards$Clerk", "yards", "(III)I"⟩ yX4_yards, Cond.selects RX10 ⟨"ShameYards$Clerk", "yards", "(III)I"⟩ yX10_yards, Cond.instanceMethod yX10_yards, Cond.initialized RX10, Cond.code yX10_yards cX10_yards 4 (some .int), Cond.methodLink RX10 7 yX1_yards, Cond.superclass RX10 RX1, Cond.methodLink RX2 137 yX2_across, Cond.instanceMethod yX2_across, Cond.selects RX2 yX2_across yX2_across, Cond.code yX2_across cX2_across 3 (some .int)]
def wsX8_dream : List Cond := .code yX8_dream cX8_dream 5 none :: ((wsX8_dream_r1 ++ (wsX8_dream_r2 ++ (wsX8_dream_r3 ++ (wsX8_dream_r4 ++ wsX8_dream_r5)))) ++ wsX80 ++ wsX20)
def wsX8_dreamtInRoomZero : List Cond := .code yX8_dreamtInRoomZero cX8_dreamtInRoomZero 1 (some .int) :: ([.fieldLink RX8 24 "ShameYards$Wander" "dreamt" "LShameYards$House;", .methodLink RX8 122 yX2_peopleInRoomZero, .instanceMethod yX2_peopleInRoomZero, .selects RX2 yX2_peopleInRoomZero yX2_peopleInRoomZero, .initialized RX2, .code yX2_peopleInRoomZero cX2_peopleInRoomZero 3 (some .int), .fieldLink RX2 93 "ShameYards$House" "peopleCount" "I", .fieldLink RX2 49 "ShameYards$House" "places" "[I"] ++ wsX80 ++ wsX20)
def wsX9_init : List Cond := .code yX9_init cX9_init 1 none :: ([.methodLink RX9 3 objectInit, .instanceMethod objectInit, .code objectInit ⟨#[0xb1]⟩ 1 none, .arrayClass .int, .fieldLink RX9 9 "ShameYards$Ways" "tolls" "[I", .fieldLink RX9 15 "ShameYards$Ways" "reach" "[I", .classLink RX9 18 "[[I", .fieldLink RX9 20 "ShameYards$Ways" "costs" "[[I", .fieldLink RX9 23 "ShameYards$Ways" "trial" "[I", .fieldLink RX9 26 "ShameYards$Ways" "best" "[I", .constant RX9 29 (1000000), .fieldLink RX9 30 "ShameYards$Ways" "fewest" "I"] ++ wsX90)
def wsJ7_fill_53178 : List Cond := .code yJ7_fill_53178 cJ7_fill_53178 4 none :: ([])
def wsX9_shorten : List Cond := .code yX9_shorten cX9_shorten 4 none :: ([.fieldLink RX9 15 "ShameYards$Ways" "reach" "[I", .methodLink RX9 62 Lib.Math.min.name, .static Lib.Math.min.name, .initialized "java/lang/Math", .code Lib.Math.min.name Lib.Math.min.code 2 (some .int)] ++ wsX90)
def wsX9_measure_r1 : List Cond := [Cond.fieldLink RX9 34 "ShameYards$House" "passageCount" "I", Cond.fieldLink RX9 9 "ShameYards$Ways" "tolls" "[I", Cond.fieldLink RX9 15 "ShameYards$Ways" "reach" "[I", Cond.constant RX9 29 (1000000), Cond.fieldLink RX9 49 "ShameYards$House" "roomCount" "I", Cond.fieldLink RX9 52 "ShameYards$House" "oneEnd" "[I", Cond.fieldLink RX9 55 "ShameYards$House" "otherEnd" "[I", Cond.methodLink RX9 39 yX2_aloneSteps, Cond.instanceMethod yX2_aloneSteps, Cond.selects RX2 yX2_aloneSteps yX2_aloneSteps, Cond.initialized RX2, Cond.code yX2_aloneSteps cX2_aloneSteps 3 (some .int), Cond.fieldLink RX2 37 "ShameYards$House" "lengths" "[I", Cond.fieldLink RX2 43 "ShameYards$House" "deeds" "[I", Cond.fieldLink RX2 46 "ShameYards$House" "lies" "[I", Cond.methodLink RX2 118 yX2_clerk, Cond.instanceMethod yX2_clerk, Cond.selects RX2 yX2_clerk yX2_clerk, Cond.code yX2_clerk cX2_clerk 2 (some (.object "ShameYards$Clerk")), Cond.fieldLink RX2 24 "ShameYards$House" "clerks" "[LShameYards$Clerk;", Cond.fieldLink RX2 40 "ShameYards$House" "kinds" "[I", Cond.methodLink RX2 122 ⟨"ShameYards$Clerk", "yards", "(III)I"⟩, Cond.sameMethod "ShameYards$Clerk" "ShameYards$Clerk" "yards" "(III)I", Cond.instanceMethod ⟨"ShameYards$Clerk", "yards", "(III)I"⟩]
def wsX9_measure_r2 : List Cond := [Cond.selects RX0 ⟨"ShameYards$Clerk", "yards", "(III)I"⟩ yX0_yards, Cond.instanceMethod yX0_yards, Cond.initialized RX0, Cond.code yX0_yards cX0_yards 4 (some .int), Cond.methodLink RX0 7 yX1_yards, Cond.superclass RX0 RX1, Cond.instanceMethod yX1_yards, Cond.initialized RX1, Cond.code yX1_yards cX1_yards 4 (some .int), Cond.methodLink RX2 122 yX1_yards, Cond.selects RX1 yX1_yards yX1_yards, Cond.selects RX3 ⟨"ShameYards$Clerk", "yards", "(III)I"⟩ yX3_yards, Cond.instanceMethod yX3_yards, Cond.initialized RX3, Cond.code yX3_yards cX3_yards 4 (some .int), Cond.methodLink RX3 7 yX4_yards, Cond.sameMethod "ShameYards$Minister" "ShameYards$Minister" "yards" "(III)I", Cond.superclass RX3 RX4, Cond.instanceMethod yX4_yards, Cond.initialized RX4, Cond.code yX4_yards cX4_yards 4 (some .int), Cond.selects RX4 ⟨"ShameYards$Clerk", "yards", "(III)I"⟩ yX4_yards, Cond.selects RX10 ⟨"ShameYards$Clerk", "yards", "(III)I"⟩ yX10_yards, Cond.instanceMethod yX10_yards]
def wsX9_measure_r3 : List Cond := [Cond.initialized RX10, Cond.code yX10_yards cX10_yards 4 (some .int), Cond.methodLink RX10 7 yX1_yards, Cond.superclass RX10 RX1, Cond.methodLink RX9 43 yJ7_fill_53178, Cond.static yJ7_fill_53178, Cond.initialized RJ7, Cond.code yJ7_fill_53178 cJ7_fill_53178 4 none, Cond.methodLink RX9 58 yX9_shorten, Cond.instanceMethod yX9_shorten, Cond.selects RX9 yX9_shorten yX9_shorten, Cond.initialized RX9, Cond.code yX9_shorten cX9_shorten 4 none, Cond.methodLink RX9 62 Lib.Math.min.name, Cond.static Lib.Math.min.name, Cond.initialized "java/lang/Math", Cond.code Lib.Math.min.name Lib.Math.min.code 2 (some .int)]
def wsX9_measure : List Cond := .code yX9_measure cX9_measure 6 none :: ((wsX9_measure_r1 ++ (wsX9_measure_r2 ++ wsX9_measure_r3)) ++ wsX20 ++ wsX90)
def wsX9_stepsFrom : List Cond := .code yX9_stepsFrom cX9_stepsFrom 2 (some .int) :: ([.fieldLink RX9 15 "ShameYards$Ways" "reach" "[I", .constant RX9 29 (1000000)] ++ wsX90)
def wsX9_nextLeg : List Cond := .code yX9_nextLeg cX9_nextLeg 4 (some .int) :: ([.fieldLink RX9 34 "ShameYards$House" "passageCount" "I", .fieldLink RX9 9 "ShameYards$Ways" "tolls" "[I", .fieldLink RX9 15 "ShameYards$Ways" "reach" "[I", .methodLink RX9 74 yX2_endsAt, .instanceMethod yX2_endsAt, .selects RX2 yX2_endsAt yX2_endsAt, .initialized RX2, .code yX2_endsAt cX2_endsAt 3 (some .boolean), .fieldLink RX2 30 "ShameYards$House" "oneEnd" "[I", .fieldLink RX2 34 "ShameYards$House" "otherEnd" "[I", .methodLink RX9 71 yX2_across, .instanceMethod yX2_across, .selects RX2 yX2_across yX2_across, .code yX2_across cX2_across 3 (some .int)] ++ wsX20 ++ wsX90)
def wsX9_legFrom : List Cond := .code yX9_legFrom cX9_legFrom 7 (some .int) :: ([.methodLink RX9 67 yX9_nextLeg, .instanceMethod yX9_nextLeg, .selects RX9 yX9_nextLeg yX9_nextLeg, .initialized RX9, .code yX9_nextLeg cX9_nextLeg 4 (some .int), .fieldLink RX9 34 "ShameYards$House" "passageCount" "I", .fieldLink RX9 9 "ShameYards$Ways" "tolls" "[I", .fieldLink RX9 15 "ShameYards$Ways" "reach" "[I", .methodLink RX9 74 yX2_endsAt, .instanceMethod yX2_endsAt, .selects RX2 yX2_endsAt yX2_endsAt, .initialized RX2, .code yX2_endsAt cX2_endsAt 3 (some .boolean), .fieldLink RX2 30 "ShameYards$House" "oneEnd" "[I", .fieldLink RX2 34 "ShameYards$House" "otherEnd" "[I", .methodLink RX9 71 yX2_across, .instanceMethod yX2_across, .selects RX2 yX2_across yX2_across, .code yX2_across cX2_across 3 (some .int)] ++ wsX20 ++ wsX90)
def wsX9_assignFrom : List Cond := .code yX9_assignFrom cX9_assignFrom 6 none :: ([.fieldLink RX9 30 "ShameYards$Ways" "fewest" "I", .fieldLink RX9 49 "ShameYards$House" "roomCount" "I", .fieldLink RX9 23 "ShameYards$Ways" "trial" "[I", .fieldLink RX9 26 "ShameYards$Ways" "best" "[I", .methodLink RX9 88 arraycopyName, .native arraycopyName, .static arraycopyName, .initialized "java/lang/System", .fieldLink RX9 78 "ShameYards$House" "peopleCount" "I", .fieldLink RX9 20 "ShameYards$Ways" "costs" "[[I", .methodLink RX9 94 yX9_assignFrom, .static yX9_assignFrom, .initialized RX9] ++ wsX90 ++ wsX20)
def wsX9_assign_r1 : List Cond := [Cond.fieldLink RX9 78 "ShameYards$House" "peopleCount" "I", Cond.fieldLink RX9 81 "ShameYards$House" "places" "[I", Cond.fieldLink RX9 15 "ShameYards$Ways" "reach" "[I", Cond.fieldLink RX9 20 "ShameYards$Ways" "costs" "[[I", Cond.methodLink RX9 88 arraycopyName, Cond.native arraycopyName, Cond.static arraycopyName, Cond.initialized "java/lang/System", Cond.constant RX9 29 (1000000), Cond.fieldLink RX9 30 "ShameYards$Ways" "fewest" "I", Cond.methodLink RX9 84 yX9_measure, Cond.instanceMethod yX9_measure, Cond.selects RX9 yX9_measure yX9_measure, Cond.initialized RX9, Cond.code yX9_measure cX9_measure 6 none, Cond.fieldLink RX9 34 "ShameYards$House" "passageCount" "I", Cond.fieldLink RX9 9 "ShameYards$Ways" "tolls" "[I", Cond.fieldLink RX9 49 "ShameYards$House" "roomCount" "I", Cond.fieldLink RX9 52 "ShameYards$House" "oneEnd" "[I", Cond.fieldLink RX9 55 "ShameYards$House" "otherEnd" "[I", Cond.methodLink RX9 39 yX2_aloneSteps, Cond.instanceMethod yX2_aloneSteps, Cond.selects RX2 yX2_aloneSteps yX2_aloneSteps, Cond.initialized RX2]
def wsX9_assign_r2 : List Cond := [Cond.code yX2_aloneSteps cX2_aloneSteps 3 (some .int), Cond.fieldLink RX2 37 "ShameYards$House" "lengths" "[I", Cond.fieldLink RX2 43 "ShameYards$House" "deeds" "[I", Cond.fieldLink RX2 46 "ShameYards$House" "lies" "[I", Cond.methodLink RX2 118 yX2_clerk, Cond.instanceMethod yX2_clerk, Cond.selects RX2 yX2_clerk yX2_clerk, Cond.code yX2_clerk cX2_clerk 2 (some (.object "ShameYards$Clerk")), Cond.fieldLink RX2 24 "ShameYards$House" "clerks" "[LShameYards$Clerk;", Cond.fieldLink RX2 40 "ShameYards$House" "kinds" "[I", Cond.methodLink RX2 122 ⟨"ShameYards$Clerk", "yards", "(III)I"⟩, Cond.sameMethod "ShameYards$Clerk" "ShameYards$Clerk" "yards" "(III)I", Cond.instanceMethod ⟨"ShameYards$Clerk", "yards", "(III)I"⟩, Cond.selects RX0 ⟨"ShameYards$Clerk", "yards", "(III)I"⟩ yX0_yards, Cond.instanceMethod yX0_yards, Cond.initialized RX0, Cond.code yX0_yards cX0_yards 4 (some .int), Cond.methodLink RX0 7 yX1_yards, Cond.superclass RX0 RX1, Cond.instanceMethod yX1_yards, Cond.initialized RX1, Cond.code yX1_yards cX1_yards 4 (some .int), Cond.methodLink RX2 122 yX1_yards, Cond.selects RX1 yX1_yards yX1_yards]
def wsX9_assign_r3 : List Cond := [Cond.selects RX3 ⟨"ShameYards$Clerk", "yards", "(III)I"⟩ yX3_yards, Cond.instanceMethod yX3_yards, Cond.initialized RX3, Cond.code yX3_yards cX3_yards 4 (some .int), Cond.methodLink RX3 7 yX4_yards, Cond.sameMethod "ShameYards$Minister" "ShameYards$Minister" "yards" "(III)I", Cond.superclass RX3 RX4, Cond.instanceMethod yX4_yards, Cond.initialized RX4, Cond.code yX4_yards cX4_yards 4 (some .int), Cond.selects RX4 ⟨"ShameYards$Clerk", "yards", "(III)I"⟩ yX4_yards, Cond.selects RX10 ⟨"ShameYards$Clerk", "yards", "(III)I"⟩ yX10_yards, Cond.instanceMethod yX10_yards, Cond.initialized RX10, Cond.code yX10_yards cX10_yards 4 (some .int), Cond.methodLink RX10 7 yX1_yards, Cond.superclass RX10 RX1, Cond.methodLink RX9 43 yJ7_fill_53178, Cond.static yJ7_fill_53178, Cond.initialized RJ7, Cond.code yJ7_fill_53178 cJ7_fill_53178 4 none, Cond.methodLink RX9 58 yX9_shorten, Cond.instanceMethod yX9_shorten, Cond.selects RX9 yX9_shorten yX9_shorten]
def wsX9_assign_r4 : List Cond := [Cond.code yX9_shorten cX9_shorten 4 none, Cond.methodLink RX9 62 Lib.Math.min.name, Cond.static Lib.Math.min.name, Cond.initialized "java/lang/Math", Cond.code Lib.Math.min.name Lib.Math.min.code 2 (some .int), Cond.methodLink RX9 94 yX9_assignFrom, Cond.static yX9_assignFrom, Cond.code yX9_assignFrom cX9_assignFrom 6 none, Cond.fieldLink RX9 23 "ShameYards$Ways" "trial" "[I", Cond.fieldLink RX9 26 "ShameYards$Ways" "best" "[I"]
def wsX9_assign : List Cond := .code yX9_assign cX9_assign 3 none :: ((wsX9_assign_r1 ++ (wsX9_assign_r2 ++ (wsX9_assign_r3 ++ wsX9_assign_r4))) ++ wsX20 ++ wsX90)
def wsX9_assignedSteps : List Cond := .code yX9_assignedSteps cX9_assignedSteps 1 (some .int) :: ([.fieldLink RX9 30 "ShameYards$Ways" "fewest" "I", .constant RX9 29 (1000000)] ++ wsX90)
def wsX9_assignedTo : List Cond := .code yX9_assignedTo cX9_assignedTo 3 (some .int) :: ([.fieldLink RX9 30 "ShameYards$Ways" "fewest" "I", .constant RX9 29 (1000000), .fieldLink RX9 26 "ShameYards$Ways" "best" "[I", .methodLink RX9 98 yX2_hasRoom, .instanceMethod yX2_hasRoom, .selects RX2 yX2_hasRoom yX2_hasRoom, .initialized RX2, .code yX2_hasRoom cX2_hasRoom 2 (some .boolean), .fieldLink RX2 77 "ShameYards$House" "roomCount" "I"] ++ wsX90 ++ wsX20)
def wsX11_init_r1 : List Cond := [Cond.methodLink RX11 1 objectInit, Cond.instanceMethod objectInit, Cond.code objectInit ⟨#[0xb1]⟩ 1 none, Cond.classLink RX11 7 RX5, Cond.instantiable RX5 2, Cond.initialized RX5, Cond.fieldLink RX11 10 "ShameYards" "page" "LShameYards$Page;", Cond.classLink RX11 16 RX2, Cond.instantiable RX2 18, Cond.initialized RX2, Cond.fieldLink RX11 19 "ShameYards" "now" "LShameYards$House;", Cond.fieldLink RX11 23 "ShameYards" "kept" "LShameYards$House;", Cond.classLink RX11 26 RX9, Cond.instantiable RX9 6, Cond.initialized RX9, Cond.fieldLink RX11 29 "ShameYards" "ways" "LShameYards$Ways;", Cond.classLink RX11 33 RX6, Cond.instantiable RX6 6, Cond.initialized RX6, Cond.fieldLink RX11 36 "ShameYards" "pairing" "LShameYards$Pairing;", Cond.classLink RX11 40 RX8, Cond.instantiable RX8 8, Cond.initialized RX8, Cond.fieldLink RX11 43 "ShameYards" "wander" "LShameYards$Wander;"]
def wsX11_init_r2 : List Cond := [Cond.instanceMethod yX5_init, Cond.code yX5_init cX5_init 1 none, Cond.methodLink RX5 3 objectInit, Cond.arrayClass .int, Cond.fieldLink RX5 9 "ShameYards$Page" "codes" "[I", Cond.instanceMethod yX2_init, Cond.code yX2_init cX2_init 1 none, Cond.methodLink RX2 3 objectInit, Cond.classLink RX2 9 RX1, Cond.instantiable RX1 0, Cond.initialized RX1, Cond.classLink RX2 12 RX0, Cond.instantiable RX0 0, Cond.initialized RX0, Cond.classLink RX2 15 RX4, Cond.instantiable RX4 0, Cond.initialized RX4, Cond.classLink RX2 18 RX10, Cond.instantiable RX10 0, Cond.initialized RX10, Cond.classLink RX2 21 RX3, Cond.instantiable RX3 0, Cond.initialized RX3, Cond.fieldLink RX2 24 "ShameYards$House" "clerks" "[LShameYards$Clerk;"]
def wsX11_init_r3 : List Cond := [Cond.fieldLink RX2 30 "ShameYards$House" "oneEnd" "[I", Cond.fieldLink RX2 34 "ShameYards$House" "otherEnd" "[I", Cond.fieldLink RX2 37 "ShameYards$House" "lengths" "[I", Cond.fieldLink RX2 40 "ShameYards$House" "kinds" "[I", Cond.fieldLink RX2 43 "ShameYards$House" "deeds" "[I", Cond.fieldLink RX2 46 "ShameYards$House" "lies" "[I", Cond.fieldLink RX2 49 "ShameYards$House" "places" "[I", Cond.fieldLink RX2 52 "ShameYards$House" "taken" "[I", Cond.fieldLink RX2 55 "ShameYards$House" "seenPerson" "[I", Cond.fieldLink RX2 58 "ShameYards$House" "seenPassage" "[I", Cond.fieldLink RX2 61 "ShameYards$House" "seenWith" "[I", Cond.fieldLink RX2 64 "ShameYards$House" "seenSteps" "[I", Cond.instanceMethod yX1_init, Cond.code yX1_init cX1_init 1 none, Cond.methodLink RX1 1 objectInit, Cond.instanceMethod yX0_init, Cond.code yX0_init cX0_init 1 none, Cond.instanceMethod yX4_init, Cond.code yX4_init cX4_init 1 none, Cond.instanceMethod yX10_init, Cond.code yX10_init cX10_init 1 none, Cond.instanceMethod yX3_init, Cond.code yX3_init cX3_init 1 none, Cond.instanceMethod yX9_init]
def wsX11_init_r4 : List Cond := [Cond.code yX9_init cX9_init 1 none, Cond.methodLink RX9 3 objectInit, Cond.fieldLink RX9 9 "ShameYards$Ways" "tolls" "[I", Cond.fieldLink RX9 15 "ShameYards$Ways" "reach" "[I", Cond.classLink RX9 18 "[[I", Cond.fieldLink RX9 20 "ShameYards$Ways" "costs" "[[I", Cond.fieldLink RX9 23 "ShameYards$Ways" "trial" "[I", Cond.fieldLink RX9 26 "ShameYards$Ways" "best" "[I", Cond.constant RX9 29 (1000000), Cond.fieldLink RX9 30 "ShameYards$Ways" "fewest" "I", Cond.instanceMethod yX6_init, Cond.code yX6_init cX6_init 1 none, Cond.methodLink RX6 3 objectInit, Cond.classLink RX6 9 "[[I", Cond.fieldLink RX6 11 "ShameYards$Pairing" "has" "[[I", Cond.fieldLink RX6 16 "ShameYards$Pairing" "trial" "[I", Cond.fieldLink RX6 20 "ShameYards$Pairing" "best" "[I", Cond.instanceMethod yX8_init, Cond.code yX8_init cX8_init 1 none, Cond.methodLink RX8 3 objectInit, Cond.arrayClass .long, Cond.fieldLink RX8 9 "ShameYards$Wander" "chancesOfA" "[J", Cond.fieldLink RX8 15 "ShameYards$Wander" "chancesOfB" "[J", Cond.fieldLink RX8 18 "ShameYards$Wander" "next" "[J"]
def wsX11_init_r5 : List Cond := [Cond.classLink RX8 21 RX2, Cond.fieldLink RX8 24 "ShameYards$Wander" "dreamt" "LShameYards$House;", Cond.fieldLink RX8 28 "ShameYards$Wander" "below" "J"]
def wsX11_init : List Cond := .code yX11_init cX11_init 1 none :: ((wsX11_init_r1 ++ (wsX11_init_r2 ++ (wsX11_init_r3 ++ (wsX11_init_r4 ++ wsX11_init_r5)))) ++ wsX50 ++ wsX110 ++ wsX20 ++ wsX90 ++ wsX60 ++ wsX80 ++ wsX10 ++ wsX00 ++ wsX40 ++ wsX100 ++ wsX30)
def wsX11_letter : List Cond := .code yX11_letter cX11_letter 2 (some .int) :: ([.fieldLink RX11 10 "ShameYards" "page" "LShameYards$Page;", .fieldLink RX11 47 "ShameYards$Page" "size" "I", .methodLink RX11 51 yX5_append, .instanceMethod yX5_append, .selects RX5 yX5_append yX5_append, .initialized RX5, .code yX5_append cX5_append 2 none, .fieldLink RX5 15 "ShameYards$Page" "size" "I", .fieldLink RX5 9 "ShameYards$Page" "codes" "[I"] ++ wsX110 ++ wsX50)
def wsX11_blank : List Cond := .code yX11_blank cX11_blank 2 (some .int) :: ([.fieldLink RX11 10 "ShameYards" "page" "LShameYards$Page;", .fieldLink RX11 47 "ShameYards$Page" "size" "I"] ++ wsX110 ++ wsX50)
def wsX11_fault_r1 : List Cond := [Cond.fieldLink RX11 10 "ShameYards" "page" "LShameYards$Page;", Cond.methodLink RX11 55 yX5_firstFault, Cond.instanceMethod yX5_firstFault, Cond.selects RX5 yX5_firstFault yX5_firstFault, Cond.initialized RX5, Cond.code yX5_firstFault cX5_firstFault 3 (some .int), Cond.fieldLink RX5 15 "ShameYards$Page" "size" "I", Cond.methodLink RX5 30 yX5_border, Cond.instanceMethod yX5_border, Cond.selects RX5 yX5_border yX5_border, Cond.code yX5_border cX5_border 2 (some .int), Cond.fieldLink RX5 9 "ShameYards$Page" "codes" "[I", Cond.methodLink RX5 34 yX5_fits, Cond.instanceMethod yX5_fits, Cond.selects RX5 yX5_fits yX5_fits, Cond.code yX5_fits cX5_fits 3 (some .boolean), Cond.methodLink RX5 41 yX5_isDigit, Cond.instanceMethod yX5_isDigit, Cond.selects RX5 yX5_isDigit yX5_isDigit, Cond.code yX5_isDigit cX5_isDigit 5 (some .boolean), Cond.methodLink RX5 19 yX5_codeAt, Cond.instanceMethod yX5_codeAt, Cond.selects RX5 yX5_codeAt yX5_codeAt, Cond.code yX5_codeAt cX5_codeAt 2 (some .int)]
def wsX11_fault_r2 : List Cond := [Cond.methodLink RX5 45 yX5_fitsPassage, Cond.instanceMethod yX5_fitsPassage, Cond.selects RX5 yX5_fitsPassage yX5_fitsPassage, Cond.code yX5_fitsPassage cX5_fitsPassage 3 (some .boolean), Cond.methodLink RX5 52 yX5_digitAt, Cond.instanceMethod yX5_digitAt, Cond.selects RX5 yX5_digitAt yX5_digitAt, Cond.code yX5_digitAt cX5_digitAt 2 (some .int), Cond.methodLink RX5 49 yX5_fitsPerson, Cond.instanceMethod yX5_fitsPerson, Cond.selects RX5 yX5_fitsPerson yX5_fitsPerson, Cond.code yX5_fitsPerson cX5_fitsPerson 3 (some .boolean), Cond.methodLink RX5 55 yX5_kindAt, Cond.instanceMethod yX5_kindAt, Cond.selects RX5 yX5_kindAt yX5_kindAt, Cond.code yX5_kindAt cX5_kindAt 2 (some .int), Cond.methodLink RX5 25 yJ0_indexOf_0f7a4, Cond.instanceMethod yJ0_indexOf_0f7a4, Cond.selects RJ0 yJ0_indexOf_0f7a4 yJ0_indexOf_0f7a4, Cond.initialized RJ0, Cond.code yJ0_indexOf_0f7a4 cJ0_indexOf_0f7a4 2 (some .int), Cond.methodLink RJ0 633 yJ0_indexOf_7cf53, Cond.instanceMethod yJ0_indexOf_7cf53, Cond.selects RJ0 yJ0_indexOf_7cf53 yJ0_indexOf_7cf53]
def wsX11_fault_r3 : List Cond := [Cond.code yJ0_indexOf_7cf53 cJ0_indexOf_7cf53 3 (some .int), Cond.fieldLink RJ0 9 "java/lang/String" "value" "[B", Cond.methodLink RJ0 492 yJ0_isLatin1_aae02, Cond.instanceMethod yJ0_isLatin1_aae02, Cond.selects RJ0 yJ0_isLatin1_aae02 yJ0_isLatin1_aae02, Cond.code yJ0_isLatin1_aae02 cJ0_isLatin1_aae02 1 (some .boolean), Cond.fieldLink RJ0 38 "java/lang/String" "COMPACT_STRINGS" "Z", Cond.fieldLink RJ0 15 "java/lang/String" "coder" "B", Cond.methodLink RJ0 505 yJ0_length_8abf5, Cond.instanceMethod yJ0_length_8abf5, Cond.selects RJ0 yJ0_length_8abf5 yJ0_length_8abf5, Cond.code yJ0_length_8abf5 cJ0_length_8abf5 1 (some .int), Cond.methodLink RJ0 335 yJ0_coder_7d493, Cond.instanceMethod yJ0_coder_7d493, Cond.selects RJ0 yJ0_coder_7d493 yJ0_coder_7d493, Cond.code yJ0_coder_7d493 cJ0_coder_7d493 1 (some .byte), Cond.methodLink RJ0 637 yJ1_indexOf_4cfef, Cond.static yJ1_indexOf_4cfef, Cond.initialized RJ1, Cond.code yJ1_indexOf_4cfef cJ1_indexOf_4cfef 4 (some .int), Cond.methodLink RJ1 92 Lib.Math.max.name, Cond.static Lib.Math.max.name, Cond.initialized "java/lang/Math", Cond.code Lib.Math.max.name Lib.Math.max.code 2 (some .int)]
def wsX11_fault_r4 : List Cond := [Cond.methodLink RJ1 38 Lib.Math.min.name, Cond.static Lib.Math.min.name, Cond.code Lib.Math.min.name Lib.Math.min.code 2 (some .int), Cond.methodLink RJ1 88 yJ1_canEncode_9a6ad, Cond.static yJ1_canEncode_9a6ad, Cond.code yJ1_canEncode_9a6ad cJ1_canEncode_9a6ad 1 (some .boolean), Cond.methodLink RJ1 95 yJ1_indexOfChar_4cfef, Cond.static yJ1_indexOfChar_4cfef, Cond.code yJ1_indexOfChar_4cfef cJ1_indexOfChar_4cfef 6 (some .int), Cond.methodLink RJ0 640 yJ2_indexOf_4cfef, Cond.static yJ2_indexOf_4cfef, Cond.initialized RJ2, Cond.code yJ2_indexOf_4cfef cJ2_indexOf_4cfef 4 (some .int), Cond.methodLink RJ2 224 Lib.Math.max.name, Cond.methodLink RJ2 183 Lib.Math.min.name, Cond.constant RJ2 227 (65536), Cond.methodLink RJ2 228 yJ2_indexOfChar_4cfef, Cond.static yJ2_indexOfChar_4cfef, Cond.code yJ2_indexOfChar_4cfef cJ2_indexOfChar_4cfef 4 (some .int), Cond.methodLink RJ2 96 yJ2_checkBoundsBeginEnd_d044e, Cond.static yJ2_checkBoundsBeginEnd_d044e, Cond.code yJ2_checkBoundsBeginEnd_d044e cJ2_checkBoundsBeginEnd_d044e 3 none, Cond.methodLink RJ2 48 yJ2_length_9d52b, Cond.static yJ2_length_9d52b]
def wsX11_fault_r5 : List Cond := [Cond.code yJ2_length_9d52b cJ2_length_9d52b 1 (some .int), Cond.methodLink RJ2 241 yJ0_checkBoundsBeginEnd_23922, Cond.static yJ0_checkBoundsBeginEnd_23922, Cond.code yJ0_checkBoundsBeginEnd_23922 cJ0_checkBoundsBeginEnd_23922 3 none, Cond.fieldLink RJ0 1053 "jdk/internal/util/Preconditions" "SIOOBE_FORMATTER" "Ljava/util/function/BiFunction;", Cond.methodLink RJ0 1062 yJ3_checkFromToIndex_8c36e, Cond.static yJ3_checkFromToIndex_8c36e, Cond.initialized RJ3, Cond.code yJ3_checkFromToIndex_8c36e cJ3_checkFromToIndex_8c36e 4 (some .int), Cond.methodLink RJ2 244 yJ2_indexOfCharUnsafe_4cfef, Cond.static yJ2_indexOfCharUnsafe_4cfef, Cond.code yJ2_indexOfCharUnsafe_4cfef cJ2_indexOfCharUnsafe_4cfef 5 (some .int), Cond.methodLink RJ2 71 yJ2_getChar_3b067, Cond.static yJ2_getChar_3b067, Cond.code yJ2_getChar_3b067 cJ2_getChar_3b067 2 (some .char), Cond.fieldLink RJ2 44 "java/lang/StringUTF16" "$assertionsDisabled" "Z", Cond.fieldLink RJ2 59 "java/lang/StringUTF16" "HI_BYTE_SHIFT" "I", Cond.fieldLink RJ2 63 "java/lang/StringUTF16" "LO_BYTE_SHIFT" "I", Cond.methodLink RJ2 232 yJ2_indexOfSupplementary_4cfef, Cond.static yJ2_indexOfSupplementary_4cfef, Cond.code yJ2_indexOfSupplementary_4cfef cJ2_indexOfSupplementary_4cfef 7 (some .int), Cond.methodLink RJ2 164 yJ11_isValidCodePoint_9a6ad, Cond.static yJ11_isValidCodePoint_9a6ad, Cond.initialized RJ11]
def wsX11_fault_r6 : List Cond := [Cond.code yJ11_isValidCodePoint_9a6ad cJ11_isValidCodePoint_9a6ad 2 (some .boolean), Cond.methodLink RJ2 157 yJ11_highSurrogate_5068e, Cond.static yJ11_highSurrogate_5068e, Cond.code yJ11_highSurrogate_5068e cJ11_highSurrogate_5068e 1 (some .char), Cond.constant RJ11 110 (55232), Cond.methodLink RJ2 161 yJ11_lowSurrogate_5068e, Cond.static yJ11_lowSurrogate_5068e, Cond.code yJ11_lowSurrogate_5068e cJ11_lowSurrogate_5068e 1 (some .char), Cond.constant RJ11 76 (56320)]
def wsX11_fault : List Cond := .code yX11_fault cX11_fault 1 (some .int) :: ((wsX11_fault_r1 ++ (wsX11_fault_r2 ++ (wsX11_fault_r3 ++ (wsX11_fault_r4 ++ (wsX11_fault_r5 ++ wsX11_fault_r6))))) ++ wsX110 ++ wsX50)
def wsX11_ministry_r1 : List Cond := [Cond.fieldLink RX11 10 "ShameYards" "page" "LShameYards$Page;", Cond.fieldLink RX11 19 "ShameYards" "now" "LShameYards$House;", Cond.fieldLink RX11 47 "ShameYards$Page" "size" "I", Cond.fieldLink RX11 67 "ShameYards" "imageStands" "Z", Cond.fieldLink RX11 71 "ShameYards" "reads" "I", Cond.fieldLink RX11 74 "ShameYards$House" "peopleCount" "I", Cond.methodLink RX11 59 yX5_isWhole, Cond.instanceMethod yX5_isWhole, Cond.selects RX5 yX5_isWhole yX5_isWhole, Cond.initialized RX5, Cond.code yX5_isWhole cX5_isWhole 2 (some .boolean), Cond.fieldLink RX5 15 "ShameYards$Page" "size" "I", Cond.methodLink RX5 30 yX5_border, Cond.instanceMethod yX5_border, Cond.selects RX5 yX5_border yX5_border, Cond.code yX5_border cX5_border 2 (some .int), Cond.fieldLink RX5 9 "ShameYards$Page" "codes" "[I", Cond.methodLink RX5 38 yX5_firstFault, Cond.instanceMethod yX5_firstFault, Cond.selects RX5 yX5_firstFault yX5_firstFault, Cond.code yX5_firstFault cX5_firstFault 3 (some .int), Cond.methodLink RX5 34 yX5_fits, Cond.instanceMethod yX5_fits, Cond.selects RX5 yX5_fits yX5_fits]
def wsX11_ministry_r2 : List Cond := [Cond.code yX5_fits cX5_fits 3 (some .boolean), Cond.methodLink RX5 41 yX5_isDigit, Cond.instanceMethod yX5_isDigit, Cond.selects RX5 yX5_isDigit yX5_isDigit, Cond.code yX5_isDigit cX5_isDigit 5 (some .boolean), Cond.methodLink RX5 19 yX5_codeAt, Cond.instanceMethod yX5_codeAt, Cond.selects RX5 yX5_codeAt yX5_codeAt, Cond.code yX5_codeAt cX5_codeAt 2 (some .int), Cond.methodLink RX5 45 yX5_fitsPassage, Cond.instanceMethod yX5_fitsPassage, Cond.selects RX5 yX5_fitsPassage yX5_fitsPassage, Cond.code yX5_fitsPassage cX5_fitsPassage 3 (some .boolean), Cond.methodLink RX5 52 yX5_digitAt, Cond.instanceMethod yX5_digitAt, Cond.selects RX5 yX5_digitAt yX5_digitAt, Cond.code yX5_digitAt cX5_digitAt 2 (some .int), Cond.methodLink RX5 49 yX5_fitsPerson, Cond.instanceMethod yX5_fitsPerson, Cond.selects RX5 yX5_fitsPerson yX5_fitsPerson, Cond.code yX5_fitsPerson cX5_fitsPerson 3 (some .boolean), Cond.methodLink RX5 55 yX5_kindAt, Cond.instanceMethod yX5_kindAt, Cond.selects RX5 yX5_kindAt yX5_kindAt]
def wsX11_ministry_r3 : List Cond := [Cond.code yX5_kindAt cX5_kindAt 2 (some .int), Cond.methodLink RX5 25 yJ0_indexOf_0f7a4, Cond.instanceMethod yJ0_indexOf_0f7a4, Cond.selects RJ0 yJ0_indexOf_0f7a4 yJ0_indexOf_0f7a4, Cond.initialized RJ0, Cond.code yJ0_indexOf_0f7a4 cJ0_indexOf_0f7a4 2 (some .int), Cond.methodLink RJ0 633 yJ0_indexOf_7cf53, Cond.instanceMethod yJ0_indexOf_7cf53, Cond.selects RJ0 yJ0_indexOf_7cf53 yJ0_indexOf_7cf53, Cond.code yJ0_indexOf_7cf53 cJ0_indexOf_7cf53 3 (some .int), Cond.fieldLink RJ0 9 "java/lang/String" "value" "[B", Cond.methodLink RJ0 492 yJ0_isLatin1_aae02, Cond.instanceMethod yJ0_isLatin1_aae02, Cond.selects RJ0 yJ0_isLatin1_aae02 yJ0_isLatin1_aae02, Cond.code yJ0_isLatin1_aae02 cJ0_isLatin1_aae02 1 (some .boolean), Cond.fieldLink RJ0 38 "java/lang/String" "COMPACT_STRINGS" "Z", Cond.fieldLink RJ0 15 "java/lang/String" "coder" "B", Cond.methodLink RJ0 505 yJ0_length_8abf5, Cond.instanceMethod yJ0_length_8abf5, Cond.selects RJ0 yJ0_length_8abf5 yJ0_length_8abf5, Cond.code yJ0_length_8abf5 cJ0_length_8abf5 1 (some .int), Cond.methodLink RJ0 335 yJ0_coder_7d493, Cond.instanceMethod yJ0_coder_7d493, Cond.selects RJ0 yJ0_coder_7d493 yJ0_coder_7d493]
def wsX11_ministry_r4 : List Cond := [Cond.code yJ0_coder_7d493 cJ0_coder_7d493 1 (some .byte), Cond.methodLink RJ0 637 yJ1_indexOf_4cfef, Cond.static yJ1_indexOf_4cfef, Cond.initialized RJ1, Cond.code yJ1_indexOf_4cfef cJ1_indexOf_4cfef 4 (some .int), Cond.methodLink RJ1 92 Lib.Math.max.name, Cond.static Lib.Math.max.name, Cond.initialized "java/lang/Math", Cond.code Lib.Math.max.name Lib.Math.max.code 2 (some .int), Cond.methodLink RJ1 38 Lib.Math.min.name, Cond.static Lib.Math.min.name, Cond.code Lib.Math.min.name Lib.Math.min.code 2 (some .int), Cond.methodLink RJ1 88 yJ1_canEncode_9a6ad, Cond.static yJ1_canEncode_9a6ad, Cond.code yJ1_canEncode_9a6ad cJ1_canEncode_9a6ad 1 (some .boolean), Cond.methodLink RJ1 95 yJ1_indexOfChar_4cfef, Cond.static yJ1_indexOfChar_4cfef, Cond.code yJ1_indexOfChar_4cfef cJ1_indexOfChar_4cfef 6 (some .int), Cond.methodLink RJ0 640 yJ2_indexOf_4cfef, Cond.static yJ2_indexOf_4cfef, Cond.initialized RJ2, Cond.code yJ2_indexOf_4cfef cJ2_indexOf_4cfef 4 (some .int), Cond.methodLink RJ2 224 Lib.Math.max.name, Cond.methodLink RJ2 183 Lib.Math.min.name]
def wsX11_ministry_r5 : List Cond := [Cond.constant RJ2 227 (65536), Cond.methodLink RJ2 228 yJ2_indexOfChar_4cfef, Cond.static yJ2_indexOfChar_4cfef, Cond.code yJ2_indexOfChar_4cfef cJ2_indexOfChar_4cfef 4 (some .int), Cond.methodLink RJ2 96 yJ2_checkBoundsBeginEnd_d044e, Cond.static yJ2_checkBoundsBeginEnd_d044e, Cond.code yJ2_checkBoundsBeginEnd_d044e cJ2_checkBoundsBeginEnd_d044e 3 none, Cond.methodLink RJ2 48 yJ2_length_9d52b, Cond.static yJ2_length_9d52b, Cond.code yJ2_length_9d52b cJ2_length_9d52b 1 (some .int), Cond.methodLink RJ2 241 yJ0_checkBoundsBeginEnd_23922, Cond.static yJ0_checkBoundsBeginEnd_23922, Cond.code yJ0_checkBoundsBeginEnd_23922 cJ0_checkBoundsBeginEnd_23922 3 none, Cond.fieldLink RJ0 1053 "jdk/internal/util/Preconditions" "SIOOBE_FORMATTER" "Ljava/util/function/BiFunction;", Cond.methodLink RJ0 1062 yJ3_checkFromToIndex_8c36e, Cond.static yJ3_checkFromToIndex_8c36e, Cond.initialized RJ3, Cond.code yJ3_checkFromToIndex_8c36e cJ3_checkFromToIndex_8c36e 4 (some .int), Cond.methodLink RJ2 244 yJ2_indexOfCharUnsafe_4cfef, Cond.static yJ2_indexOfCharUnsafe_4cfef, Cond.code yJ2_indexOfCharUnsafe_4cfef cJ2_indexOfCharUnsafe_4cfef 5 (some .int), Cond.methodLink RJ2 71 yJ2_getChar_3b067, Cond.static yJ2_getChar_3b067, Cond.code yJ2_getChar_3b067 cJ2_getChar_3b067 2 (some .char)]
def wsX11_ministry_r6 : List Cond := [Cond.fieldLink RJ2 44 "java/lang/StringUTF16" "$assertionsDisabled" "Z", Cond.fieldLink RJ2 59 "java/lang/StringUTF16" "HI_BYTE_SHIFT" "I", Cond.fieldLink RJ2 63 "java/lang/StringUTF16" "LO_BYTE_SHIFT" "I", Cond.methodLink RJ2 232 yJ2_indexOfSupplementary_4cfef, Cond.static yJ2_indexOfSupplementary_4cfef, Cond.code yJ2_indexOfSupplementary_4cfef cJ2_indexOfSupplementary_4cfef 7 (some .int), Cond.methodLink RJ2 164 yJ11_isValidCodePoint_9a6ad, Cond.static yJ11_isValidCodePoint_9a6ad, Cond.initialized RJ11, Cond.code yJ11_isValidCodePoint_9a6ad cJ11_isValidCodePoint_9a6ad 2 (some .boolean), Cond.methodLink RJ2 157 yJ11_highSurrogate_5068e, Cond.static yJ11_highSurrogate_5068e, Cond.code yJ11_highSurrogate_5068e cJ11_highSurrogate_5068e 1 (some .char), Cond.constant RJ11 110 (55232), Cond.methodLink RJ2 161 yJ11_lowSurrogate_5068e, Cond.static yJ11_lowSurrogate_5068e, Cond.code yJ11_lowSurrogate_5068e cJ11_lowSurrogate_5068e 1 (some .char), Cond.constant RJ11 76 (56320), Cond.methodLink RX11 63 yX2_settle, Cond.instanceMethod yX2_settle, Cond.selects RX2 yX2_settle yX2_settle, Cond.initialized RX2, Cond.code yX2_settle cX2_settle 5 none, Cond.fieldLink RX2 77 "ShameYards$House" "roomCount" "I"]
def wsX11_ministry_r7 : List Cond := [Cond.methodLink RX2 81 Lib.Math.min.name, Cond.fieldLink RX2 87 "ShameYards$House" "passageCount" "I", Cond.fieldLink RX2 90 "ShameYards$Page" "size" "I", Cond.fieldLink RX2 93 "ShameYards$House" "peopleCount" "I", Cond.fieldLink RX2 30 "ShameYards$House" "oneEnd" "[I", Cond.fieldLink RX2 34 "ShameYards$House" "otherEnd" "[I", Cond.fieldLink RX2 37 "ShameYards$House" "lengths" "[I", Cond.fieldLink RX2 40 "ShameYards$House" "kinds" "[I", Cond.fieldLink RX2 43 "ShameYards$House" "deeds" "[I", Cond.fieldLink RX2 46 "ShameYards$House" "lies" "[I", Cond.fieldLink RX2 49 "ShameYards$House" "places" "[I", Cond.fieldLink RX2 52 "ShameYards$House" "taken" "[I", Cond.fieldLink RX2 99 "ShameYards$House" "walksTogether" "I", Cond.fieldLink RX2 102 "ShameYards$House" "seenCount" "I", Cond.methodLink RX2 67 yX5_border, Cond.methodLink RX2 73 yX5_digitAt, Cond.methodLink RX2 96 yX5_kindAt]
def wsX11_ministry : List Cond := .code yX11_ministry cX11_ministry 1 (some .int) :: ((wsX11_ministry_r1 ++ (wsX11_ministry_r2 ++ (wsX11_ministry_r3 ++ (wsX11_ministry_r4 ++ (wsX11_ministry_r5 ++ (wsX11_ministry_r6 ++ wsX11_ministry_r7)))))) ++ wsX110 ++ wsX50 ++ wsX20)
def wsX11_tellPerson_r1 : List Cond := [Cond.fieldLink RX11 19 "ShameYards" "now" "LShameYards$House;", Cond.fieldLink RX11 85 "ShameYards$House" "kinds" "[I", Cond.fieldLink RX11 89 "ShameYards$House" "deeds" "[I", Cond.fieldLink RX11 92 "ShameYards$House" "lies" "[I", Cond.fieldLink RX11 95 "ShameYards$House" "places" "[I", Cond.fieldLink RX11 98 "ShameYards$House" "taken" "[I", Cond.methodLink RX11 101 yX7_possibleLies, Cond.static yX7_possibleLies, Cond.initialized RX7, Cond.code yX7_possibleLies cX7_possibleLies 4 (some .int), Cond.methodLink RX7 9 yX7_isAsSeen, Cond.static yX7_isAsSeen, Cond.code yX7_isAsSeen cX7_isAsSeen 4 (some .boolean), Cond.fieldLink RX7 15 "ShameYards$House" "seenCount" "I", Cond.fieldLink RX7 21 "ShameYards$House" "seenPerson" "[I", Cond.fieldLink RX7 25 "ShameYards$House" "seenSteps" "[I", Cond.fieldLink RX7 28 "ShameYards$House" "seenPassage" "[I", Cond.fieldLink RX7 31 "ShameYards$House" "seenWith" "[I", Cond.methodLink RX7 34 yX2_stepsWithLies, Cond.instanceMethod yX2_stepsWithLies, Cond.selects RX2 yX2_stepsWithLies yX2_stepsWithLies, Cond.initialized RX2, Cond.code yX2_stepsWithLies cX2_stepsWithLies 7 (some .int), Cond.fieldLink RX2 37 "ShameYards$House" "lengths" "[I"]
def wsX11_tellPerson_r2 : List Cond := [Cond.fieldLink RX2 43 "ShameYards$House" "deeds" "[I", Cond.fieldLink RX2 46 "ShameYards$House" "lies" "[I", Cond.methodLink RX2 118 yX2_clerk, Cond.instanceMethod yX2_clerk, Cond.selects RX2 yX2_clerk yX2_clerk, Cond.code yX2_clerk cX2_clerk 2 (some (.object "ShameYards$Clerk")), Cond.fieldLink RX2 24 "ShameYards$House" "clerks" "[LShameYards$Clerk;", Cond.fieldLink RX2 40 "ShameYards$House" "kinds" "[I", Cond.methodLink RX2 122 ⟨"ShameYards$Clerk", "yards", "(III)I"⟩, Cond.sameMethod "ShameYards$Clerk" "ShameYards$Clerk" "yards" "(III)I", Cond.instanceMethod ⟨"ShameYards$Clerk", "yards", "(III)I"⟩, Cond.selects RX0 ⟨"ShameYards$Clerk", "yards", "(III)I"⟩ yX0_yards, Cond.instanceMethod yX0_yards, Cond.initialized RX0, Cond.code yX0_yards cX0_yards 4 (some .int), Cond.methodLink RX0 7 yX1_yards, Cond.superclass RX0 RX1, Cond.instanceMethod yX1_yards, Cond.initialized RX1, Cond.code yX1_yards cX1_yards 4 (some .int), Cond.methodLink RX2 122 yX1_yards, Cond.selects RX1 yX1_yards yX1_yards, Cond.selects RX3 ⟨"ShameYards$Clerk", "yards", "(III)I"⟩ yX3_yards, Cond.instanceMethod yX3_yards]
def wsX11_tellPerson_r3 : List Cond := [Cond.initialized RX3, Cond.code yX3_yards cX3_yards 4 (some .int), Cond.methodLink RX3 7 yX4_yards, Cond.sameMethod "ShameYards$Minister" "ShameYards$Minister" "yards" "(III)I", Cond.superclass RX3 RX4, Cond.instanceMethod yX4_yards, Cond.initialized RX4, Cond.code yX4_yards cX4_yards 4 (some .int), Cond.selects RX4 ⟨"ShameYards$Clerk", "yards", "(III)I"⟩ yX4_yards, Cond.selects RX10 ⟨"ShameYards$Clerk", "yards", "(III)I"⟩ yX10_yards, Cond.instanceMethod yX10_yards, Cond.initialized RX10, Cond.code yX10_yards cX10_yards 4 (some .int), Cond.methodLink RX10 7 yX1_yards, Cond.superclass RX10 RX1, Cond.methodLink RX11 107 yX7_bestQuestion, Cond.static yX7_bestQuestion, Cond.code yX7_bestQuestion cX7_bestQuestion 8 (some .int), Cond.fieldLink RX7 42 "ShameYards$House" "passageCount" "I", Cond.fieldLink RX7 45 "ShameYards$House" "peopleCount" "I", Cond.methodLink RX7 38 yX7_possibleLies, Cond.methodLink RX7 48 yX7_leftAtWorst, Cond.static yX7_leftAtWorst, Cond.code yX7_leftAtWorst cX7_leftAtWorst 10 (some .int)]
def wsX11_tellPerson_r4 : List Cond := [Cond.methodLink RX7 52 Lib.Math.max.name, Cond.static Lib.Math.max.name, Cond.initialized "java/lang/Math", Cond.code Lib.Math.max.name Lib.Math.max.code 2 (some .int)]
def wsX11_tellPerson : List Cond := .code yX11_tellPerson cX11_tellPerson 3 (some .int) :: ((wsX11_tellPerson_r1 ++ (wsX11_tellPerson_r2 ++ (wsX11_tellPerson_r3 ++ wsX11_tellPerson_r4))) ++ wsX110 ++ wsX20)
def wsX11_person_r1 : List Cond := [Cond.fieldLink RX11 19 "ShameYards" "now" "LShameYards$House;", Cond.methodLink RX11 77 yX2_hasPerson, Cond.instanceMethod yX2_hasPerson, Cond.selects RX2 yX2_hasPerson yX2_hasPerson, Cond.initialized RX2, Cond.code yX2_hasPerson cX2_hasPerson 2 (some .boolean), Cond.fieldLink RX2 93 "ShameYards$House" "peopleCount" "I", Cond.methodLink RX11 81 yX11_tellPerson, Cond.instanceMethod yX11_tellPerson, Cond.selects RX11 yX11_tellPerson yX11_tellPerson, Cond.initialized RX11, Cond.code yX11_tellPerson cX11_tellPerson 3 (some .int), Cond.fieldLink RX11 85 "ShameYards$House" "kinds" "[I", Cond.fieldLink RX11 89 "ShameYards$House" "deeds" "[I", Cond.fieldLink RX11 92 "ShameYards$House" "lies" "[I", Cond.fieldLink RX11 95 "ShameYards$House" "places" "[I", Cond.fieldLink RX11 98 "ShameYards$House" "taken" "[I", Cond.methodLink RX11 101 yX7_possibleLies, Cond.static yX7_possibleLies, Cond.initialized RX7, Cond.code yX7_possibleLies cX7_possibleLies 4 (some .int), Cond.methodLink RX7 9 yX7_isAsSeen, Cond.static yX7_isAsSeen, Cond.code yX7_isAsSeen cX7_isAsSeen 4 (some .boolean)]
def wsX11_person_r2 : List Cond := [Cond.fieldLink RX7 15 "ShameYards$House" "seenCount" "I", Cond.fieldLink RX7 21 "ShameYards$House" "seenPerson" "[I", Cond.fieldLink RX7 25 "ShameYards$House" "seenSteps" "[I", Cond.fieldLink RX7 28 "ShameYards$House" "seenPassage" "[I", Cond.fieldLink RX7 31 "ShameYards$House" "seenWith" "[I", Cond.methodLink RX7 34 yX2_stepsWithLies, Cond.instanceMethod yX2_stepsWithLies, Cond.selects RX2 yX2_stepsWithLies yX2_stepsWithLies, Cond.code yX2_stepsWithLies cX2_stepsWithLies 7 (some .int), Cond.fieldLink RX2 37 "ShameYards$House" "lengths" "[I", Cond.fieldLink RX2 43 "ShameYards$House" "deeds" "[I", Cond.fieldLink RX2 46 "ShameYards$House" "lies" "[I", Cond.methodLink RX2 118 yX2_clerk, Cond.instanceMethod yX2_clerk, Cond.selects RX2 yX2_clerk yX2_clerk, Cond.code yX2_clerk cX2_clerk 2 (some (.object "ShameYards$Clerk")), Cond.fieldLink RX2 24 "ShameYards$House" "clerks" "[LShameYards$Clerk;", Cond.fieldLink RX2 40 "ShameYards$House" "kinds" "[I", Cond.methodLink RX2 122 ⟨"ShameYards$Clerk", "yards", "(III)I"⟩, Cond.sameMethod "ShameYards$Clerk" "ShameYards$Clerk" "yards" "(III)I", Cond.instanceMethod ⟨"ShameYards$Clerk", "yards", "(III)I"⟩, Cond.selects RX0 ⟨"ShameYards$Clerk", "yards", "(III)I"⟩ yX0_yards, Cond.instanceMethod yX0_yards, Cond.initialized RX0]
def wsX11_person_r3 : List Cond := [Cond.code yX0_yards cX0_yards 4 (some .int), Cond.methodLink RX0 7 yX1_yards, Cond.superclass RX0 RX1, Cond.instanceMethod yX1_yards, Cond.initialized RX1, Cond.code yX1_yards cX1_yards 4 (some .int), Cond.methodLink RX2 122 yX1_yards, Cond.selects RX1 yX1_yards yX1_yards, Cond.selects RX3 ⟨"ShameYards$Clerk", "yards", "(III)I"⟩ yX3_yards, Cond.instanceMethod yX3_yards, Cond.initialized RX3, Cond.code yX3_yards cX3_yards 4 (some .int), Cond.methodLink RX3 7 yX4_yards, Cond.sameMethod "ShameYards$Minister" "ShameYards$Minister" "yards" "(III)I", Cond.superclass RX3 RX4, Cond.instanceMethod yX4_yards, Cond.initialized RX4, Cond.code yX4_yards cX4_yards 4 (some .int), Cond.selects RX4 ⟨"ShameYards$Clerk", "yards", "(III)I"⟩ yX4_yards, Cond.selects RX10 ⟨"ShameYards$Clerk", "yards", "(III)I"⟩ yX10_yards, Cond.instanceMethod yX10_yards, Cond.initialized RX10, Cond.code yX10_yards cX10_yards 4 (some .int), Cond.methodLink RX10 7 yX1_yards]
def wsX11_person_r4 : List Cond := [Cond.superclass RX10 RX1, Cond.methodLink RX11 107 yX7_bestQuestion, Cond.static yX7_bestQuestion, Cond.code yX7_bestQuestion cX7_bestQuestion 8 (some .int), Cond.fieldLink RX7 42 "ShameYards$House" "passageCount" "I", Cond.fieldLink RX7 45 "ShameYards$House" "peopleCount" "I", Cond.methodLink RX7 38 yX7_possibleLies, Cond.methodLink RX7 48 yX7_leftAtWorst, Cond.static yX7_leftAtWorst, Cond.code yX7_leftAtWorst cX7_leftAtWorst 10 (some .int), Cond.methodLink RX7 52 Lib.Math.max.name, Cond.static Lib.Math.max.name, Cond.initialized "java/lang/Math", Cond.code Lib.Math.max.name Lib.Math.max.code 2 (some .int)]
def wsX11_person : List Cond := .code yX11_person cX11_person 3 (some .int) :: ((wsX11_person_r1 ++ (wsX11_person_r2 ++ (wsX11_person_r3 ++ wsX11_person_r4))) ++ wsX110 ++ wsX20)
def wsX11_isOfKind : List Cond := .code yX11_isOfKind cX11_isOfKind 2 (some .boolean) :: ([.classLink RX11 118 "ShameYards$Boy", .classLink RX11 120 "ShameYards$Minister", .classLink RX11 122 "ShameYards$Woman", .classLink RX11 124 "ShameYards$Lamp"])
def wsX11_as : List Cond := .code yX11_as cX11_as 3 (some .int) :: ([.fieldLink RX11 19 "ShameYards" "now" "LShameYards$House;", .methodLink RX11 77 yX2_hasPerson, .instanceMethod yX2_hasPerson, .selects RX2 yX2_hasPerson yX2_hasPerson, .initialized RX2, .code yX2_hasPerson cX2_hasPerson 2 (some .boolean), .fieldLink RX2 93 "ShameYards$House" "peopleCount" "I", .methodLink RX11 110 yX2_clerk, .instanceMethod yX2_clerk, .selects RX2 yX2_clerk yX2_clerk, .code yX2_clerk cX2_clerk 2 (some (.object "ShameYards$Clerk")), .fieldLink RX2 24 "ShameYards$House" "clerks" "[LShameYards$Clerk;", .fieldLink RX2 40 "ShameYards$House" "kinds" "[I", .methodLink RX11 114 yX11_isOfKind, .static yX11_isOfKind, .initialized RX11, .code yX11_isOfKind cX11_isOfKind 2 (some .boolean), .classLink RX11 118 "ShameYards$Boy", .classLink RX11 120 "ShameYards$Minister", .classLink RX11 122 "ShameYards$Woman", .classLink RX11 124 "ShameYards$Lamp"] ++ wsX110 ++ wsX20)
def wsX11_tellPassage : List Cond := .code yX11_tellPassage cX11_tellPassage 3 (some .int) :: ([.fieldLink RX11 19 "ShameYards" "now" "LShameYards$House;", .fieldLink RX11 132 "ShameYards$House" "oneEnd" "[I", .fieldLink RX11 135 "ShameYards$House" "otherEnd" "[I", .fieldLink RX11 138 "ShameYards$House" "lengths" "[I"] ++ wsX110 ++ wsX20)
def wsX11_passage : List Cond := .code yX11_passage cX11_passage 3 (some .int) :: ([.fieldLink RX11 19 "ShameYards" "now" "LShameYards$House;", .methodLink RX11 126 yX2_hasPassage, .instanceMethod yX2_hasPassage, .selects RX2 yX2_hasPassage yX2_hasPassage, .initialized RX2, .code yX2_hasPassage cX2_hasPassage 2 (some .boolean), .fieldLink RX2 87 "ShameYards$House" "passageCount" "I", .methodLink RX11 129 yX11_tellPassage, .instanceMethod yX11_tellPassage, .selects RX11 yX11_tellPassage yX11_tellPassage, .initialized RX11, .code yX11_tellPassage cX11_tellPassage 3 (some .int), .fieldLink RX11 132 "ShameYards$House" "oneEnd" "[I", .fieldLink RX11 135 "ShameYards$House" "otherEnd" "[I", .fieldLink RX11 138 "ShameYards$House" "lengths" "[I"] ++ wsX110 ++ wsX20)
def wsX11_steps_r1 : List Cond := [Cond.fieldLink RX11 19 "ShameYards" "now" "LShameYards$House;", Cond.methodLink RX11 141 yX2_knows, Cond.instanceMethod yX2_knows, Cond.selects RX2 yX2_knows yX2_knows, Cond.initialized RX2, Cond.code yX2_knows cX2_knows 4 (some .boolean), Cond.methodLink RX2 111 yX2_hasPerson, Cond.instanceMethod yX2_hasPerson, Cond.selects RX2 yX2_hasPerson yX2_hasPerson, Cond.code yX2_hasPerson cX2_hasPerson 2 (some .boolean), Cond.fieldLink RX2 93 "ShameYards$House" "peopleCount" "I", Cond.methodLink RX2 115 yX2_hasPassage, Cond.instanceMethod yX2_hasPassage, Cond.selects RX2 yX2_hasPassage yX2_hasPassage, Cond.code yX2_hasPassage cX2_hasPassage 2 (some .boolean), Cond.fieldLink RX2 87 "ShameYards$House" "passageCount" "I", Cond.methodLink RX11 145 yX2_stepsOf, Cond.instanceMethod yX2_stepsOf, Cond.selects RX2 yX2_stepsOf yX2_stepsOf, Cond.code yX2_stepsOf cX2_stepsOf 4 (some .int), Cond.fieldLink RX2 46 "ShameYards$House" "lies" "[I", Cond.methodLink RX2 126 yX2_stepsWithLies, Cond.instanceMethod yX2_stepsWithLies, Cond.selects RX2 yX2_stepsWithLies yX2_stepsWithLies]
def wsX11_steps_r2 : List Cond := [Cond.code yX2_stepsWithLies cX2_stepsWithLies 7 (some .int), Cond.fieldLink RX2 37 "ShameYards$House" "lengths" "[I", Cond.fieldLink RX2 43 "ShameYards$House" "deeds" "[I", Cond.methodLink RX2 118 yX2_clerk, Cond.instanceMethod yX2_clerk, Cond.selects RX2 yX2_clerk yX2_clerk, Cond.code yX2_clerk cX2_clerk 2 (some (.object "ShameYards$Clerk")), Cond.fieldLink RX2 24 "ShameYards$House" "clerks" "[LShameYards$Clerk;", Cond.fieldLink RX2 40 "ShameYards$House" "kinds" "[I", Cond.methodLink RX2 122 ⟨"ShameYards$Clerk", "yards", "(III)I"⟩, Cond.sameMethod "ShameYards$Clerk" "ShameYards$Clerk" "yards" "(III)I", Cond.instanceMethod ⟨"ShameYards$Clerk", "yards", "(III)I"⟩, Cond.selects RX0 ⟨"ShameYards$Clerk", "yards", "(III)I"⟩ yX0_yards, Cond.instanceMethod yX0_yards, Cond.initialized RX0, Cond.code yX0_yards cX0_yards 4 (some .int), Cond.methodLink RX0 7 yX1_yards, Cond.superclass RX0 RX1, Cond.instanceMethod yX1_yards, Cond.initialized RX1, Cond.code yX1_yards cX1_yards 4 (some .int), Cond.methodLink RX2 122 yX1_yards, Cond.selects RX1 yX1_yards yX1_yards, Cond.selects RX3 ⟨"ShameYards$Clerk", "yards", "(III)I"⟩ yX3_yards]
def wsX11_steps_r3 : List Cond := [Cond.instanceMethod yX3_yards, Cond.initialized RX3, Cond.code yX3_yards cX3_yards 4 (some .int), Cond.methodLink RX3 7 yX4_yards, Cond.sameMethod "ShameYards$Minister" "ShameYards$Minister" "yards" "(III)I", Cond.superclass RX3 RX4, Cond.instanceMethod yX4_yards, Cond.initialized RX4, Cond.code yX4_yards cX4_yards 4 (some .int), Cond.selects RX4 ⟨"ShameYards$Clerk", "yards", "(III)I"⟩ yX4_yards, Cond.selects RX10 ⟨"ShameYards$Clerk", "yards", "(III)I"⟩ yX10_yards, Cond.instanceMethod yX10_yards, Cond.initialized RX10, Cond.code yX10_yards cX10_yards 4 (some .int), Cond.methodLink RX10 7 yX1_yards, Cond.superclass RX10 RX1]
def wsX11_steps : List Cond := .code yX11_steps cX11_steps 4 (some .int) :: ((wsX11_steps_r1 ++ (wsX11_steps_r2 ++ wsX11_steps_r3)) ++ wsX110 ++ wsX20)
def wsX11_go_r1 : List Cond := [Cond.fieldLink RX11 19 "ShameYards" "now" "LShameYards$House;", Cond.fieldLink RX11 98 "ShameYards$House" "taken" "[I", Cond.methodLink RX11 141 yX2_knows, Cond.instanceMethod yX2_knows, Cond.selects RX2 yX2_knows yX2_knows, Cond.initialized RX2, Cond.code yX2_knows cX2_knows 4 (some .boolean), Cond.methodLink RX2 111 yX2_hasPerson, Cond.instanceMethod yX2_hasPerson, Cond.selects RX2 yX2_hasPerson yX2_hasPerson, Cond.code yX2_hasPerson cX2_hasPerson 2 (some .boolean), Cond.fieldLink RX2 93 "ShameYards$House" "peopleCount" "I", Cond.methodLink RX2 115 yX2_hasPassage, Cond.instanceMethod yX2_hasPassage, Cond.selects RX2 yX2_hasPassage yX2_hasPassage, Cond.code yX2_hasPassage cX2_hasPassage 2 (some .boolean), Cond.fieldLink RX2 87 "ShameYards$House" "passageCount" "I", Cond.methodLink RX11 149 yX2_mayLeaveBy, Cond.instanceMethod yX2_mayLeaveBy, Cond.selects RX2 yX2_mayLeaveBy yX2_mayLeaveBy, Cond.code yX2_mayLeaveBy cX2_mayLeaveBy 4 (some .boolean), Cond.fieldLink RX2 49 "ShameYards$House" "places" "[I", Cond.methodLink RX2 130 yX2_endsAt, Cond.instanceMethod yX2_endsAt]
def wsX11_go_r2 : List Cond := [Cond.selects RX2 yX2_endsAt yX2_endsAt, Cond.code yX2_endsAt cX2_endsAt 3 (some .boolean), Cond.fieldLink RX2 30 "ShameYards$House" "oneEnd" "[I", Cond.fieldLink RX2 34 "ShameYards$House" "otherEnd" "[I", Cond.methodLink RX11 152 yX2_walk, Cond.instanceMethod yX2_walk, Cond.selects RX2 yX2_walk yX2_walk, Cond.code yX2_walk cX2_walk 6 (some .int), Cond.fieldLink RX2 52 "ShameYards$House" "taken" "[I", Cond.fieldLink RX2 99 "ShameYards$House" "walksTogether" "I", Cond.methodLink RX2 134 yX2_stepsOf, Cond.instanceMethod yX2_stepsOf, Cond.selects RX2 yX2_stepsOf yX2_stepsOf, Cond.code yX2_stepsOf cX2_stepsOf 4 (some .int), Cond.fieldLink RX2 46 "ShameYards$House" "lies" "[I", Cond.methodLink RX2 126 yX2_stepsWithLies, Cond.instanceMethod yX2_stepsWithLies, Cond.selects RX2 yX2_stepsWithLies yX2_stepsWithLies, Cond.code yX2_stepsWithLies cX2_stepsWithLies 7 (some .int), Cond.fieldLink RX2 37 "ShameYards$House" "lengths" "[I", Cond.fieldLink RX2 43 "ShameYards$House" "deeds" "[I", Cond.methodLink RX2 118 yX2_clerk, Cond.instanceMethod yX2_clerk, Cond.selects RX2 yX2_clerk yX2_clerk]
def wsX11_go_r3 : List Cond := [Cond.code yX2_clerk cX2_clerk 2 (some (.object "ShameYards$Clerk")), Cond.fieldLink RX2 24 "ShameYards$House" "clerks" "[LShameYards$Clerk;", Cond.fieldLink RX2 40 "ShameYards$House" "kinds" "[I", Cond.methodLink RX2 122 ⟨"ShameYards$Clerk", "yards", "(III)I"⟩, Cond.sameMethod "ShameYards$Clerk" "ShameYards$Clerk" "yards" "(III)I", Cond.instanceMethod ⟨"ShameYards$Clerk", "yards", "(III)I"⟩, Cond.selects RX0 ⟨"ShameYards$Clerk", "yards", "(III)I"⟩ yX0_yards, Cond.instanceMethod yX0_yards, Cond.initialized RX0, Cond.code yX0_yards cX0_yards 4 (some .int), Cond.methodLink RX0 7 yX1_yards, Cond.superclass RX0 RX1, Cond.instanceMethod yX1_yards, Cond.initialized RX1, Cond.code yX1_yards cX1_yards 4 (some .int), Cond.methodLink RX2 122 yX1_yards, Cond.selects RX1 yX1_yards yX1_yards, Cond.selects RX3 ⟨"ShameYards$Clerk", "yards", "(III)I"⟩ yX3_yards, Cond.instanceMethod yX3_yards, Cond.initialized RX3, Cond.code yX3_yards cX3_yards 4 (some .int), Cond.methodLink RX3 7 yX4_yards, Cond.sameMethod "ShameYards$Minister" "ShameYards$Minister" "yards" "(III)I", Cond.superclass RX3 RX4]
def wsX11_go_r4 : List Cond := [Cond.instanceMethod yX4_yards, Cond.initialized RX4, Cond.code yX4_yards cX4_yards 4 (some .int), Cond.selects RX4 ⟨"ShameYards$Clerk", "yards", "(III)I"⟩ yX4_yards, Cond.selects RX10 ⟨"ShameYards$Clerk", "yards", "(III)I"⟩ yX10_yards, Cond.instanceMethod yX10_yards, Cond.initialized RX10, Cond.code yX10_yards cX10_yards 4 (some .int), Cond.methodLink RX10 7 yX1_yards, Cond.superclass RX10 RX1, Cond.methodLink RX2 137 yX2_across, Cond.instanceMethod yX2_across, Cond.selects RX2 yX2_across yX2_across, Cond.code yX2_across cX2_across 3 (some .int)]
def wsX11_go : List Cond := .code yX11_go cX11_go 4 (some .int) :: ((wsX11_go_r1 ++ (wsX11_go_r2 ++ (wsX11_go_r3 ++ wsX11_go_r4))) ++ wsX110 ++ wsX20)
def wsX11_sin : List Cond := .code yX11_sin cX11_sin 2 (some .int) :: ([.fieldLink RX11 19 "ShameYards" "now" "LShameYards$House;", .fieldLink RX11 89 "ShameYards$House" "deeds" "[I", .methodLink RX11 77 yX2_hasPerson, .instanceMethod yX2_hasPerson, .selects RX2 yX2_hasPerson yX2_hasPerson, .initialized RX2, .code yX2_hasPerson cX2_hasPerson 2 (some .boolean), .fieldLink RX2 93 "ShameYards$House" "peopleCount" "I"] ++ wsX110 ++ wsX20)
def wsX11_lie : List Cond := .code yX11_lie cX11_lie 2 (some .int) :: ([.fieldLink RX11 19 "ShameYards" "now" "LShameYards$House;", .fieldLink RX11 92 "ShameYards$House" "lies" "[I", .methodLink RX11 77 yX2_hasPerson, .instanceMethod yX2_hasPerson, .selects RX2 yX2_hasPerson yX2_hasPerson, .initialized RX2, .code yX2_hasPerson cX2_hasPerson 2 (some .boolean), .fieldLink RX2 93 "ShameYards$House" "peopleCount" "I"] ++ wsX110 ++ wsX20)
def wsX11_confess : List Cond := .code yX11_confess cX11_confess 2 (some .int) :: ([.fieldLink RX11 19 "ShameYards" "now" "LShameYards$House;", .fieldLink RX11 89 "ShameYards$House" "deeds" "[I", .methodLink RX11 77 yX2_hasPerson, .instanceMethod yX2_hasPerson, .selects RX2 yX2_hasPerson yX2_hasPerson, .initialized RX2, .code yX2_hasPerson cX2_hasPerson 2 (some .boolean), .fieldLink RX2 93 "ShameYards$House" "peopleCount" "I"] ++ wsX110 ++ wsX20)
def wsX11_carpet : List Cond := .code yX11_carpet cX11_carpet 4 (some .int) :: ([.fieldLink RX11 19 "ShameYards" "now" "LShameYards$House;", .fieldLink RX11 138 "ShameYards$House" "lengths" "[I", .methodLink RX11 126 yX2_hasPassage, .instanceMethod yX2_hasPassage, .selects RX2 yX2_hasPassage yX2_hasPassage, .initialized RX2, .code yX2_hasPassage cX2_hasPassage 2 (some .boolean), .fieldLink RX2 87 "ShameYards$House" "passageCount" "I"] ++ wsX110 ++ wsX20)
def wsX11_far_r1 : List Cond := [Cond.fieldLink RX11 19 "ShameYards" "now" "LShameYards$House;", Cond.fieldLink RX11 29 "ShameYards" "ways" "LShameYards$Ways;", Cond.methodLink RX11 77 yX2_hasPerson, Cond.instanceMethod yX2_hasPerson, Cond.selects RX2 yX2_hasPerson yX2_hasPerson, Cond.initialized RX2, Cond.code yX2_hasPerson cX2_hasPerson 2 (some .boolean), Cond.fieldLink RX2 93 "ShameYards$House" "peopleCount" "I", Cond.methodLink RX11 155 yX2_hasRoom, Cond.instanceMethod yX2_hasRoom, Cond.selects RX2 yX2_hasRoom yX2_hasRoom, Cond.code yX2_hasRoom cX2_hasRoom 2 (some .boolean), Cond.fieldLink RX2 77 "ShameYards$House" "roomCount" "I", Cond.methodLink RX11 158 yX9_measure, Cond.instanceMethod yX9_measure, Cond.selects RX9 yX9_measure yX9_measure, Cond.initialized RX9, Cond.code yX9_measure cX9_measure 6 none, Cond.fieldLink RX9 34 "ShameYards$House" "passageCount" "I", Cond.fieldLink RX9 9 "ShameYards$Ways" "tolls" "[I", Cond.fieldLink RX9 15 "ShameYards$Ways" "reach" "[I", Cond.constant RX9 29 (1000000), Cond.fieldLink RX9 49 "ShameYards$House" "roomCount" "I", Cond.fieldLink RX9 52 "ShameYards$House" "oneEnd" "[I"]
def wsX11_far_r2 : List Cond := [Cond.fieldLink RX9 55 "ShameYards$House" "otherEnd" "[I", Cond.methodLink RX9 39 yX2_aloneSteps, Cond.instanceMethod yX2_aloneSteps, Cond.selects RX2 yX2_aloneSteps yX2_aloneSteps, Cond.code yX2_aloneSteps cX2_aloneSteps 3 (some .int), Cond.fieldLink RX2 37 "ShameYards$House" "lengths" "[I", Cond.fieldLink RX2 43 "ShameYards$House" "deeds" "[I", Cond.fieldLink RX2 46 "ShameYards$House" "lies" "[I", Cond.methodLink RX2 118 yX2_clerk, Cond.instanceMethod yX2_clerk, Cond.selects RX2 yX2_clerk yX2_clerk, Cond.code yX2_clerk cX2_clerk 2 (some (.object "ShameYards$Clerk")), Cond.fieldLink RX2 24 "ShameYards$House" "clerks" "[LShameYards$Clerk;", Cond.fieldLink RX2 40 "ShameYards$House" "kinds" "[I", Cond.methodLink RX2 122 ⟨"ShameYards$Clerk", "yards", "(III)I"⟩, Cond.sameMethod "ShameYards$Clerk" "ShameYards$Clerk" "yards" "(III)I", Cond.instanceMethod ⟨"ShameYards$Clerk", "yards", "(III)I"⟩, Cond.selects RX0 ⟨"ShameYards$Clerk", "yards", "(III)I"⟩ yX0_yards, Cond.instanceMethod yX0_yards, Cond.initialized RX0, Cond.code yX0_yards cX0_yards 4 (some .int), Cond.methodLink RX0 7 yX1_yards, Cond.superclass RX0 RX1, Cond.instanceMethod yX1_yards]
def wsX11_far_r3 : List Cond := [Cond.initialized RX1, Cond.code yX1_yards cX1_yards 4 (some .int), Cond.methodLink RX2 122 yX1_yards, Cond.selects RX1 yX1_yards yX1_yards, Cond.selects RX3 ⟨"ShameYards$Clerk", "yards", "(III)I"⟩ yX3_yards, Cond.instanceMethod yX3_yards, Cond.initialized RX3, Cond.code yX3_yards cX3_yards 4 (some .int), Cond.methodLink RX3 7 yX4_yards, Cond.sameMethod "ShameYards$Minister" "ShameYards$Minister" "yards" "(III)I", Cond.superclass RX3 RX4, Cond.instanceMethod yX4_yards, Cond.initialized RX4, Cond.code yX4_yards cX4_yards 4 (some .int), Cond.selects RX4 ⟨"ShameYards$Clerk", "yards", "(III)I"⟩ yX4_yards, Cond.selects RX10 ⟨"ShameYards$Clerk", "yards", "(III)I"⟩ yX10_yards, Cond.instanceMethod yX10_yards, Cond.initialized RX10, Cond.code yX10_yards cX10_yards 4 (some .int), Cond.methodLink RX10 7 yX1_yards, Cond.superclass RX10 RX1, Cond.methodLink RX9 43 yJ7_fill_53178, Cond.static yJ7_fill_53178, Cond.initialized RJ7]
def wsX11_far_r4 : List Cond := [Cond.code yJ7_fill_53178 cJ7_fill_53178 4 none, Cond.methodLink RX9 58 yX9_shorten, Cond.instanceMethod yX9_shorten, Cond.selects RX9 yX9_shorten yX9_shorten, Cond.code yX9_shorten cX9_shorten 4 none, Cond.methodLink RX9 62 Lib.Math.min.name, Cond.static Lib.Math.min.name, Cond.initialized "java/lang/Math", Cond.code Lib.Math.min.name Lib.Math.min.code 2 (some .int), Cond.methodLink RX11 162 yX9_stepsFrom, Cond.instanceMethod yX9_stepsFrom, Cond.selects RX9 yX9_stepsFrom yX9_stepsFrom, Cond.code yX9_stepsFrom cX9_stepsFrom 2 (some .int), Cond.methodLink RX11 166 yX9_legFrom, Cond.instanceMethod yX9_legFrom, Cond.selects RX9 yX9_legFrom yX9_legFrom, Cond.code yX9_legFrom cX9_legFrom 7 (some .int), Cond.methodLink RX9 67 yX9_nextLeg, Cond.instanceMethod yX9_nextLeg, Cond.selects RX9 yX9_nextLeg yX9_nextLeg, Cond.code yX9_nextLeg cX9_nextLeg 4 (some .int), Cond.methodLink RX9 74 yX2_endsAt, Cond.instanceMethod yX2_endsAt, Cond.selects RX2 yX2_endsAt yX2_endsAt]
def wsX11_far_r5 : List Cond := [Cond.code yX2_endsAt cX2_endsAt 3 (some .boolean), Cond.fieldLink RX2 30 "ShameYards$House" "oneEnd" "[I", Cond.fieldLink RX2 34 "ShameYards$House" "otherEnd" "[I", Cond.methodLink RX9 71 yX2_across, Cond.instanceMethod yX2_across, Cond.selects RX2 yX2_across yX2_across, Cond.code yX2_across cX2_across 3 (some .int)]
def wsX11_far : List Cond := .code yX11_far cX11_far 5 (some .int) :: ((wsX11_far_r1 ++ (wsX11_far_r2 ++ (wsX11_far_r3 ++ (wsX11_far_r4 ++ wsX11_far_r5)))) ++ wsX110 ++ wsX20 ++ wsX90)
def wsX11_send_r1 : List Cond := [Cond.fieldLink RX11 19 "ShameYards" "now" "LShameYards$House;", Cond.fieldLink RX11 173 "ShameYards" "sends" "I", Cond.fieldLink RX11 29 "ShameYards" "ways" "LShameYards$Ways;", Cond.methodLink RX11 170 yX2_isThere, Cond.instanceMethod yX2_isThere, Cond.selects RX2 yX2_isThere yX2_isThere, Cond.initialized RX2, Cond.code yX2_isThere cX2_isThere 1 (some .boolean), Cond.fieldLink RX2 77 "ShameYards$House" "roomCount" "I", Cond.methodLink RX11 176 yX9_assign, Cond.instanceMethod yX9_assign, Cond.selects RX9 yX9_assign yX9_assign, Cond.initialized RX9, Cond.code yX9_assign cX9_assign 3 none, Cond.fieldLink RX9 78 "ShameYards$House" "peopleCount" "I", Cond.fieldLink RX9 81 "ShameYards$House" "places" "[I", Cond.fieldLink RX9 15 "ShameYards$Ways" "reach" "[I", Cond.fieldLink RX9 20 "ShameYards$Ways" "costs" "[[I", Cond.methodLink RX9 88 arraycopyName, Cond.native arraycopyName, Cond.static arraycopyName, Cond.initialized "java/lang/System", Cond.constant RX9 29 (1000000), Cond.fieldLink RX9 30 "ShameYards$Ways" "fewest" "I"]
def wsX11_send_r2 : List Cond := [Cond.methodLink RX9 84 yX9_measure, Cond.instanceMethod yX9_measure, Cond.selects RX9 yX9_measure yX9_measure, Cond.code yX9_measure cX9_measure 6 none, Cond.fieldLink RX9 34 "ShameYards$House" "passageCount" "I", Cond.fieldLink RX9 9 "ShameYards$Ways" "tolls" "[I", Cond.fieldLink RX9 49 "ShameYards$House" "roomCount" "I", Cond.fieldLink RX9 52 "ShameYards$House" "oneEnd" "[I", Cond.fieldLink RX9 55 "ShameYards$House" "otherEnd" "[I", Cond.methodLink RX9 39 yX2_aloneSteps, Cond.instanceMethod yX2_aloneSteps, Cond.selects RX2 yX2_aloneSteps yX2_aloneSteps, Cond.code yX2_aloneSteps cX2_aloneSteps 3 (some .int), Cond.fieldLink RX2 37 "ShameYards$House" "lengths" "[I", Cond.fieldLink RX2 43 "ShameYards$House" "deeds" "[I", Cond.fieldLink RX2 46 "ShameYards$House" "lies" "[I", Cond.methodLink RX2 118 yX2_clerk, Cond.instanceMethod yX2_clerk, Cond.selects RX2 yX2_clerk yX2_clerk, Cond.code yX2_clerk cX2_clerk 2 (some (.object "ShameYards$Clerk")), Cond.fieldLink RX2 24 "ShameYards$House" "clerks" "[LShameYards$Clerk;", Cond.fieldLink RX2 40 "ShameYards$House" "kinds" "[I", Cond.methodLink RX2 122 ⟨"ShameYards$Clerk", "yards", "(III)I"⟩, Cond.sameMethod "ShameYards$Clerk" "ShameYards$Clerk" "yards" "(III)I"]
def wsX11_send_r3 : List Cond := [Cond.instanceMethod ⟨"ShameYards$Clerk", "yards", "(III)I"⟩, Cond.selects RX0 ⟨"ShameYards$Clerk", "yards", "(III)I"⟩ yX0_yards, Cond.instanceMethod yX0_yards, Cond.initialized RX0, Cond.code yX0_yards cX0_yards 4 (some .int), Cond.methodLink RX0 7 yX1_yards, Cond.superclass RX0 RX1, Cond.instanceMethod yX1_yards, Cond.initialized RX1, Cond.code yX1_yards cX1_yards 4 (some .int), Cond.methodLink RX2 122 yX1_yards, Cond.selects RX1 yX1_yards yX1_yards, Cond.selects RX3 ⟨"ShameYards$Clerk", "yards", "(III)I"⟩ yX3_yards, Cond.instanceMethod yX3_yards, Cond.initialized RX3, Cond.code yX3_yards cX3_yards 4 (some .int), Cond.methodLink RX3 7 yX4_yards, Cond.sameMethod "ShameYards$Minister" "ShameYards$Minister" "yards" "(III)I", Cond.superclass RX3 RX4, Cond.instanceMethod yX4_yards, Cond.initialized RX4, Cond.code yX4_yards cX4_yards 4 (some .int), Cond.selects RX4 ⟨"ShameYards$Clerk", "yards", "(III)I"⟩ yX4_yards, Cond.selects RX10 ⟨"ShameYards$Clerk", "yards", "(III)I"⟩ yX10_yards]
def wsX11_send_r4 : List Cond := [Cond.instanceMethod yX10_yards, Cond.initialized RX10, Cond.code yX10_yards cX10_yards 4 (some .int), Cond.methodLink RX10 7 yX1_yards, Cond.superclass RX10 RX1, Cond.methodLink RX9 43 yJ7_fill_53178, Cond.static yJ7_fill_53178, Cond.initialized RJ7, Cond.code yJ7_fill_53178 cJ7_fill_53178 4 none, Cond.methodLink RX9 58 yX9_shorten, Cond.instanceMethod yX9_shorten, Cond.selects RX9 yX9_shorten yX9_shorten, Cond.code yX9_shorten cX9_shorten 4 none, Cond.methodLink RX9 62 Lib.Math.min.name, Cond.static Lib.Math.min.name, Cond.initialized "java/lang/Math", Cond.code Lib.Math.min.name Lib.Math.min.code 2 (some .int), Cond.methodLink RX9 94 yX9_assignFrom, Cond.static yX9_assignFrom, Cond.code yX9_assignFrom cX9_assignFrom 6 none, Cond.fieldLink RX9 23 "ShameYards$Ways" "trial" "[I", Cond.fieldLink RX9 26 "ShameYards$Ways" "best" "[I", Cond.methodLink RX11 180 yX9_assignedSteps, Cond.instanceMethod yX9_assignedSteps]
def wsX11_send_r5 : List Cond := [Cond.selects RX9 yX9_assignedSteps yX9_assignedSteps, Cond.code yX9_assignedSteps cX9_assignedSteps 1 (some .int), Cond.methodLink RX11 183 yX9_assignedTo, Cond.instanceMethod yX9_assignedTo, Cond.selects RX9 yX9_assignedTo yX9_assignedTo, Cond.code yX9_assignedTo cX9_assignedTo 3 (some .int), Cond.methodLink RX9 98 yX2_hasRoom, Cond.instanceMethod yX2_hasRoom, Cond.selects RX2 yX2_hasRoom yX2_hasRoom, Cond.code yX2_hasRoom cX2_hasRoom 2 (some .boolean)]
def wsX11_send : List Cond := .code yX11_send cX11_send 2 (some .int) :: ((wsX11_send_r1 ++ (wsX11_send_r2 ++ (wsX11_send_r3 ++ (wsX11_send_r4 ++ wsX11_send_r5)))) ++ wsX110 ++ wsX20 ++ wsX90)
def wsX11_pairs_r1 : List Cond := [Cond.fieldLink RX11 19 "ShameYards" "now" "LShameYards$House;", Cond.fieldLink RX11 36 "ShameYards" "pairing" "LShameYards$Pairing;", Cond.fieldLink RX11 190 "ShameYards$Pairing" "leastMost" "I", Cond.methodLink RX11 126 yX2_hasPassage, Cond.instanceMethod yX2_hasPassage, Cond.selects RX2 yX2_hasPassage yX2_hasPassage, Cond.initialized RX2, Cond.code yX2_hasPassage cX2_hasPassage 2 (some .boolean), Cond.fieldLink RX2 87 "ShameYards$House" "passageCount" "I", Cond.methodLink RX11 186 yX6_arrange, Cond.instanceMethod yX6_arrange, Cond.selects RX6 yX6_arrange yX6_arrange, Cond.initialized RX6, Cond.code yX6_arrange cX6_arrange 5 none, Cond.fieldLink RX6 23 "ShameYards$House" "peopleCount" "I", Cond.fieldLink RX6 29 "ShameYards$Pairing" "people" "I", Cond.fieldLink RX6 11 "ShameYards$Pairing" "has" "[[I", Cond.constant RX6 40 (1000000), Cond.fieldLink RX6 41 "ShameYards$Pairing" "leastMost" "I", Cond.fieldLink RX6 44 "ShameYards$Pairing" "leastPairs" "I", Cond.methodLink RX6 32 yX2_aloneSteps, Cond.instanceMethod yX2_aloneSteps, Cond.selects RX2 yX2_aloneSteps yX2_aloneSteps, Cond.code yX2_aloneSteps cX2_aloneSteps 3 (some .int)]
def wsX11_pairs_r2 : List Cond := [Cond.fieldLink RX2 37 "ShameYards$House" "lengths" "[I", Cond.fieldLink RX2 43 "ShameYards$House" "deeds" "[I", Cond.fieldLink RX2 46 "ShameYards$House" "lies" "[I", Cond.methodLink RX2 118 yX2_clerk, Cond.instanceMethod yX2_clerk, Cond.selects RX2 yX2_clerk yX2_clerk, Cond.code yX2_clerk cX2_clerk 2 (some (.object "ShameYards$Clerk")), Cond.fieldLink RX2 24 "ShameYards$House" "clerks" "[LShameYards$Clerk;", Cond.fieldLink RX2 40 "ShameYards$House" "kinds" "[I", Cond.methodLink RX2 122 ⟨"ShameYards$Clerk", "yards", "(III)I"⟩, Cond.sameMethod "ShameYards$Clerk" "ShameYards$Clerk" "yards" "(III)I", Cond.instanceMethod ⟨"ShameYards$Clerk", "yards", "(III)I"⟩, Cond.selects RX0 ⟨"ShameYards$Clerk", "yards", "(III)I"⟩ yX0_yards, Cond.instanceMethod yX0_yards, Cond.initialized RX0, Cond.code yX0_yards cX0_yards 4 (some .int), Cond.methodLink RX0 7 yX1_yards, Cond.superclass RX0 RX1, Cond.instanceMethod yX1_yards, Cond.initialized RX1, Cond.code yX1_yards cX1_yards 4 (some .int), Cond.methodLink RX2 122 yX1_yards, Cond.selects RX1 yX1_yards yX1_yards, Cond.selects RX3 ⟨"ShameYards$Clerk", "yards", "(III)I"⟩ yX3_yards]
def wsX11_pairs_r3 : List Cond := [Cond.instanceMethod yX3_yards, Cond.initialized RX3, Cond.code yX3_yards cX3_yards 4 (some .int), Cond.methodLink RX3 7 yX4_yards, Cond.sameMethod "ShameYards$Minister" "ShameYards$Minister" "yards" "(III)I", Cond.superclass RX3 RX4, Cond.instanceMethod yX4_yards, Cond.initialized RX4, Cond.code yX4_yards cX4_yards 4 (some .int), Cond.selects RX4 ⟨"ShameYards$Clerk", "yards", "(III)I"⟩ yX4_yards, Cond.selects RX10 ⟨"ShameYards$Clerk", "yards", "(III)I"⟩ yX10_yards, Cond.instanceMethod yX10_yards, Cond.initialized RX10, Cond.code yX10_yards cX10_yards 4 (some .int), Cond.methodLink RX10 7 yX1_yards, Cond.superclass RX10 RX1, Cond.methodLink RX6 36 yX2_stepsOf, Cond.instanceMethod yX2_stepsOf, Cond.selects RX2 yX2_stepsOf yX2_stepsOf, Cond.code yX2_stepsOf cX2_stepsOf 4 (some .int), Cond.methodLink RX2 126 yX2_stepsWithLies, Cond.instanceMethod yX2_stepsWithLies, Cond.selects RX2 yX2_stepsWithLies yX2_stepsWithLies, Cond.code yX2_stepsWithLies cX2_stepsWithLies 7 (some .int)]
def wsX11_pairs_r4 : List Cond := [Cond.methodLink RX6 47 yX6_arrangeFrom, Cond.static yX6_arrangeFrom, Cond.code yX6_arrangeFrom cX6_arrangeFrom 6 none, Cond.fieldLink RX6 16 "ShameYards$Pairing" "trial" "[I", Cond.methodLink RX6 59 Lib.Math.max.name, Cond.static Lib.Math.max.name, Cond.initialized "java/lang/Math", Cond.code Lib.Math.max.name Lib.Math.max.code 2 (some .int), Cond.methodLink RX6 51 yX6_isBetter, Cond.instanceMethod yX6_isBetter, Cond.selects RX6 yX6_isBetter yX6_isBetter, Cond.code yX6_isBetter cX6_isBetter 3 (some .boolean), Cond.methodLink RX6 55 yX6_keep, Cond.instanceMethod yX6_keep, Cond.selects RX6 yX6_keep yX6_keep, Cond.code yX6_keep cX6_keep 3 none, Cond.fieldLink RX6 20 "ShameYards$Pairing" "best" "[I", Cond.methodLink RX6 64 arraycopyName, Cond.native arraycopyName, Cond.static arraycopyName, Cond.initialized "java/lang/System", Cond.methodLink RX11 193 yX6_partnerOf, Cond.instanceMethod yX6_partnerOf, Cond.selects RX6 yX6_partnerOf yX6_partnerOf]
def wsX11_pairs_r5 : List Cond := [Cond.code yX6_partnerOf cX6_partnerOf 3 (some .int), Cond.methodLink RX6 70 yX2_hasPerson, Cond.instanceMethod yX2_hasPerson, Cond.selects RX2 yX2_hasPerson yX2_hasPerson, Cond.code yX2_hasPerson cX2_hasPerson 2 (some .boolean), Cond.fieldLink RX2 93 "ShameYards$House" "peopleCount" "I"]
def wsX11_pairs : List Cond := .code yX11_pairs cX11_pairs 3 (some .int) :: ((wsX11_pairs_r1 ++ (wsX11_pairs_r2 ++ (wsX11_pairs_r3 ++ (wsX11_pairs_r4 ++ wsX11_pairs_r5)))) ++ wsX110 ++ wsX60 ++ wsX20)
def wsX11_meet_r1 : List Cond := [Cond.fieldLink RX11 19 "ShameYards" "now" "LShameYards$House;", Cond.constantLong RX11 196 (-101), Cond.constantLong RX11 198 (-102), Cond.fieldLink RX11 43 "ShameYards" "wander" "LShameYards$Wander;", Cond.fieldLink RX11 204 "ShameYards$Wander" "above" "J", Cond.fieldLink RX11 208 "ShameYards$Wander" "below" "J", Cond.methodLink RX11 77 yX2_hasPerson, Cond.instanceMethod yX2_hasPerson, Cond.selects RX2 yX2_hasPerson yX2_hasPerson, Cond.initialized RX2, Cond.code yX2_hasPerson cX2_hasPerson 2 (some .boolean), Cond.fieldLink RX2 93 "ShameYards$House" "peopleCount" "I", Cond.methodLink RX11 200 yX8_compare, Cond.instanceMethod yX8_compare, Cond.selects RX8 yX8_compare yX8_compare, Cond.initialized RX8, Cond.code yX8_compare cX8_compare 7 none, Cond.fieldLink RX8 32 "ShameYards$House" "places" "[I", Cond.fieldLink RX8 9 "ShameYards$Wander" "chancesOfA" "[J", Cond.fieldLink RX8 15 "ShameYards$Wander" "chancesOfB" "[J", Cond.fieldLink RX8 40 "ShameYards$Wander" "above" "J", Cond.fieldLink RX8 43 "ShameYards$House" "roomCount" "I", Cond.fieldLink RX8 28 "ShameYards$Wander" "below" "J", Cond.constantLong RX8 47 (176400)]
def wsX11_meet_r2 : List Cond := [Cond.methodLink RX8 36 yX8_spread, Cond.instanceMethod yX8_spread, Cond.selects RX8 yX8_spread yX8_spread, Cond.code yX8_spread cX8_spread 7 none, Cond.fieldLink RX8 18 "ShameYards$Wander" "next" "[J", Cond.methodLink RX8 63 arraycopyName, Cond.native arraycopyName, Cond.static arraycopyName, Cond.initialized "java/lang/System", Cond.methodLink RX8 53 yJ7_fill_d0a16, Cond.static yJ7_fill_d0a16, Cond.initialized RJ7, Cond.code yJ7_fill_d0a16 cJ7_fill_d0a16 5 none, Cond.methodLink RX8 59 yX8_shareOut, Cond.instanceMethod yX8_shareOut, Cond.selects RX8 yX8_shareOut yX8_shareOut, Cond.code yX8_shareOut cX8_shareOut 9 none, Cond.constantLong RX8 73 (420), Cond.fieldLink RX8 75 "ShameYards$House" "passageCount" "I", Cond.methodLink RX8 69 yX2_doorsOf, Cond.instanceMethod yX2_doorsOf, Cond.selects RX2 yX2_doorsOf yX2_doorsOf, Cond.code yX2_doorsOf cX2_doorsOf 4 (some .int), Cond.fieldLink RX2 87 "ShameYards$House" "passageCount" "I"]
def wsX11_meet_r3 : List Cond := [Cond.methodLink RX2 130 yX2_endsAt, Cond.instanceMethod yX2_endsAt, Cond.selects RX2 yX2_endsAt yX2_endsAt, Cond.code yX2_endsAt cX2_endsAt 3 (some .boolean), Cond.fieldLink RX2 30 "ShameYards$House" "oneEnd" "[I", Cond.fieldLink RX2 34 "ShameYards$House" "otherEnd" "[I", Cond.methodLink RX8 78 yX2_endsAt, Cond.methodLink RX8 82 yX2_across, Cond.instanceMethod yX2_across, Cond.selects RX2 yX2_across yX2_across, Cond.code yX2_across cX2_across 3 (some .int), Cond.methodLink RX8 49 yX8_commonDivisor, Cond.static yX8_commonDivisor, Cond.code yX8_commonDivisor cX8_commonDivisor 11 (some .long)]
def wsX11_meet : List Cond := .code yX11_meet cX11_meet 5 (some .long) :: ((wsX11_meet_r1 ++ (wsX11_meet_r2 ++ wsX11_meet_r3)) ++ wsX110 ++ wsX80 ++ wsX20)
def wsX11_see_r1 : List Cond := [Cond.fieldLink RX11 19 "ShameYards" "now" "LShameYards$House;", Cond.fieldLink RX11 211 "ShameYards$House" "seenCount" "I", Cond.methodLink RX11 141 yX2_knows, Cond.instanceMethod yX2_knows, Cond.selects RX2 yX2_knows yX2_knows, Cond.initialized RX2, Cond.code yX2_knows cX2_knows 4 (some .boolean), Cond.methodLink RX2 111 yX2_hasPerson, Cond.instanceMethod yX2_hasPerson, Cond.selects RX2 yX2_hasPerson yX2_hasPerson, Cond.code yX2_hasPerson cX2_hasPerson 2 (some .boolean), Cond.fieldLink RX2 93 "ShameYards$House" "peopleCount" "I", Cond.methodLink RX2 115 yX2_hasPassage, Cond.instanceMethod yX2_hasPassage, Cond.selects RX2 yX2_hasPassage yX2_hasPassage, Cond.code yX2_hasPassage cX2_hasPassage 2 (some .boolean), Cond.fieldLink RX2 87 "ShameYards$House" "passageCount" "I", Cond.methodLink RX11 214 yX2_note, Cond.instanceMethod yX2_note, Cond.selects RX2 yX2_note yX2_note, Cond.code yX2_note cX2_note 5 none, Cond.fieldLink RX2 102 "ShameYards$House" "seenCount" "I", Cond.fieldLink RX2 55 "ShameYards$House" "seenPerson" "[I", Cond.fieldLink RX2 58 "ShameYards$House" "seenPassage" "[I"]
def wsX11_see_r2 : List Cond := [Cond.fieldLink RX2 61 "ShameYards$House" "seenWith" "[I", Cond.fieldLink RX2 64 "ShameYards$House" "seenSteps" "[I"]
def wsX11_see : List Cond := .code yX11_see cX11_see 5 (some .int) :: ((wsX11_see_r1 ++ wsX11_see_r2) ++ wsX110 ++ wsX20)
def wsX11_forget : List Cond := .code yX11_forget cX11_forget 2 (some .int) :: ([.fieldLink RX11 19 "ShameYards" "now" "LShameYards$House;", .fieldLink RX11 211 "ShameYards$House" "seenCount" "I"] ++ wsX110 ++ wsX20)
def wsX11_days_r1 : List Cond := [Cond.fieldLink RX11 19 "ShameYards" "now" "LShameYards$House;", Cond.fieldLink RX11 43 "ShameYards" "wander" "LShameYards$Wander;", Cond.fieldLink RX11 221 "ShameYards$Wander" "dreamtSteps" "I", Cond.fieldLink RX11 227 "ShameYards$Wander" "seed" "I", Cond.methodLink RX11 170 yX2_isThere, Cond.instanceMethod yX2_isThere, Cond.selects RX2 yX2_isThere yX2_isThere, Cond.initialized RX2, Cond.code yX2_isThere cX2_isThere 1 (some .boolean), Cond.fieldLink RX2 77 "ShameYards$House" "roomCount" "I", Cond.methodLink RX11 218 yX8_dream, Cond.instanceMethod yX8_dream, Cond.selects RX8 yX8_dream yX8_dream, Cond.initialized RX8, Cond.code yX8_dream cX8_dream 5 none, Cond.fieldLink RX8 24 "ShameYards$Wander" "dreamt" "LShameYards$House;", Cond.fieldLink RX8 90 "ShameYards$Wander" "seed" "I", Cond.fieldLink RX8 93 "ShameYards$Wander" "dreamtSteps" "I", Cond.methodLink RX8 86 yX2_copyFrom, Cond.instanceMethod yX2_copyFrom, Cond.selects RX2 yX2_copyFrom yX2_copyFrom, Cond.code yX2_copyFrom cX2_copyFrom 2 none, Cond.fieldLink RX2 87 "ShameYards$House" "passageCount" "I", Cond.fieldLink RX2 93 "ShameYards$House" "peopleCount" "I"]
def wsX11_days_r2 : List Cond := [Cond.fieldLink RX2 99 "ShameYards$House" "walksTogether" "I", Cond.fieldLink RX2 102 "ShameYards$House" "seenCount" "I", Cond.fieldLink RX2 30 "ShameYards$House" "oneEnd" "[I", Cond.methodLink RX2 105 arraycopyName, Cond.native arraycopyName, Cond.static arraycopyName, Cond.initialized "java/lang/System", Cond.fieldLink RX2 34 "ShameYards$House" "otherEnd" "[I", Cond.fieldLink RX2 37 "ShameYards$House" "lengths" "[I", Cond.fieldLink RX2 40 "ShameYards$House" "kinds" "[I", Cond.fieldLink RX2 43 "ShameYards$House" "deeds" "[I", Cond.fieldLink RX2 46 "ShameYards$House" "lies" "[I", Cond.fieldLink RX2 49 "ShameYards$House" "places" "[I", Cond.fieldLink RX2 52 "ShameYards$House" "taken" "[I", Cond.fieldLink RX2 55 "ShameYards$House" "seenPerson" "[I", Cond.fieldLink RX2 58 "ShameYards$House" "seenPassage" "[I", Cond.fieldLink RX2 61 "ShameYards$House" "seenWith" "[I", Cond.fieldLink RX2 64 "ShameYards$House" "seenSteps" "[I", Cond.methodLink RX8 96 yX8_dreamOfOne, Cond.instanceMethod yX8_dreamOfOne, Cond.selects RX8 yX8_dreamOfOne yX8_dreamOfOne, Cond.code yX8_dreamOfOne cX8_dreamOfOne 5 none, Cond.fieldLink RX8 99 "ShameYards$House" "peopleCount" "I", Cond.fieldLink RX8 32 "ShameYards$House" "places" "[I"]
def wsX11_days_r3 : List Cond := [Cond.fieldLink RX8 112 "ShameYards$House" "lies" "[I", Cond.methodLink RX8 102 yX8_draw, Cond.instanceMethod yX8_draw, Cond.selects RX8 yX8_draw yX8_draw, Cond.code yX8_draw cX8_draw 2 (some .int), Cond.constantLong RX8 115 (1103515245), Cond.constantLong RX8 117 (12345), Cond.constantLong RX8 119 (2147483647), Cond.constant RX8 121 (65536), Cond.methodLink RX8 69 yX2_doorsOf, Cond.instanceMethod yX2_doorsOf, Cond.selects RX2 yX2_doorsOf yX2_doorsOf, Cond.code yX2_doorsOf cX2_doorsOf 4 (some .int), Cond.methodLink RX2 130 yX2_endsAt, Cond.instanceMethod yX2_endsAt, Cond.selects RX2 yX2_endsAt yX2_endsAt, Cond.code yX2_endsAt cX2_endsAt 3 (some .boolean), Cond.methodLink RX8 105 yX2_doorOf, Cond.instanceMethod yX2_doorOf, Cond.selects RX2 yX2_doorOf yX2_doorOf, Cond.code yX2_doorOf cX2_doorOf 5 (some .int), Cond.methodLink RX8 108 yX2_walk, Cond.instanceMethod yX2_walk, Cond.selects RX2 yX2_walk yX2_walk]
def wsX11_days_r4 : List Cond := [Cond.code yX2_walk cX2_walk 6 (some .int), Cond.methodLink RX2 134 yX2_stepsOf, Cond.instanceMethod yX2_stepsOf, Cond.selects RX2 yX2_stepsOf yX2_stepsOf, Cond.code yX2_stepsOf cX2_stepsOf 4 (some .int), Cond.methodLink RX2 126 yX2_stepsWithLies, Cond.instanceMethod yX2_stepsWithLies, Cond.selects RX2 yX2_stepsWithLies yX2_stepsWithLies, Cond.code yX2_stepsWithLies cX2_stepsWithLies 7 (some .int), Cond.methodLink RX2 118 yX2_clerk, Cond.instanceMethod yX2_clerk, Cond.selects RX2 yX2_clerk yX2_clerk, Cond.code yX2_clerk cX2_clerk 2 (some (.object "ShameYards$Clerk")), Cond.fieldLink RX2 24 "ShameYards$House" "clerks" "[LShameYards$Clerk;", Cond.methodLink RX2 122 ⟨"ShameYards$Clerk", "yards", "(III)I"⟩, Cond.sameMethod "ShameYards$Clerk" "ShameYards$Clerk" "yards" "(III)I", Cond.instanceMethod ⟨"ShameYards$Clerk", "yards", "(III)I"⟩, Cond.selects RX0 ⟨"ShameYards$Clerk", "yards", "(III)I"⟩ yX0_yards, Cond.instanceMethod yX0_yards, Cond.initialized RX0, Cond.code yX0_yards cX0_yards 4 (some .int), Cond.methodLink RX0 7 yX1_yards, Cond.superclass RX0 RX1, Cond.instanceMethod yX1_yards]
def wsX11_days_r5 : List Cond := [Cond.initialized RX1, Cond.code yX1_yards cX1_yards 4 (some .int), Cond.methodLink RX2 122 yX1_yards, Cond.selects RX1 yX1_yards yX1_yards, Cond.selects RX3 ⟨"ShameYards$Clerk", "yards", "(III)I"⟩ yX3_yards, Cond.instanceMethod yX3_yards, Cond.initialized RX3, Cond.code yX3_yards cX3_yards 4 (some .int), Cond.methodLink RX3 7 yX4_yards, Cond.sameMethod "ShameYards$Minister" "ShameYards$Minister" "yards" "(III)I", Cond.superclass RX3 RX4, Cond.instanceMethod yX4_yards, Cond.initialized RX4, Cond.code yX4_yards cX4_yards 4 (some .int), Cond.selects RX4 ⟨"ShameYards$Clerk", "yards", "(III)I"⟩ yX4_yards, Cond.selects RX10 ⟨"ShameYards$Clerk", "yards", "(III)I"⟩ yX10_yards, Cond.instanceMethod yX10_yards, Cond.initialized RX10, Cond.code yX10_yards cX10_yards 4 (some .int), Cond.methodLink RX10 7 yX1_yards, Cond.superclass RX10 RX1, Cond.methodLink RX2 137 yX2_across, Cond.instanceMethod yX2_across, Cond.selects RX2 yX2_across yX2_across]
def wsX11_days_r6 : List Cond := [Cond.code yX2_across cX2_across 3 (some .int), Cond.methodLink RX11 224 yX8_dreamtInRoomZero, Cond.instanceMethod yX8_dreamtInRoomZero, Cond.selects RX8 yX8_dreamtInRoomZero yX8_dreamtInRoomZero, Cond.code yX8_dreamtInRoomZero cX8_dreamtInRoomZero 1 (some .int), Cond.methodLink RX8 122 yX2_peopleInRoomZero, Cond.instanceMethod yX2_peopleInRoomZero, Cond.selects RX2 yX2_peopleInRoomZero yX2_peopleInRoomZero, Cond.code yX2_peopleInRoomZero cX2_peopleInRoomZero 3 (some .int)]
def wsX11_days : List Cond := .code yX11_days cX11_days 4 (some .int) :: ((wsX11_days_r1 ++ (wsX11_days_r2 ++ (wsX11_days_r3 ++ (wsX11_days_r4 ++ (wsX11_days_r5 ++ wsX11_days_r6))))) ++ wsX110 ++ wsX80 ++ wsX20)
def wsX11_image_r1 : List Cond := [Cond.fieldLink RX11 19 "ShameYards" "now" "LShameYards$House;", Cond.fieldLink RX11 23 "ShameYards" "kept" "LShameYards$House;", Cond.fieldLink RX11 67 "ShameYards" "imageStands" "Z", Cond.fieldLink RX11 98 "ShameYards$House" "taken" "[I", Cond.methodLink RX11 170 yX2_isThere, Cond.instanceMethod yX2_isThere, Cond.selects RX2 yX2_isThere yX2_isThere, Cond.initialized RX2, Cond.code yX2_isThere cX2_isThere 1 (some .boolean), Cond.fieldLink RX2 77 "ShameYards$House" "roomCount" "I", Cond.methodLink RX11 230 yX2_copyFrom, Cond.instanceMethod yX2_copyFrom, Cond.selects RX2 yX2_copyFrom yX2_copyFrom, Cond.code yX2_copyFrom cX2_copyFrom 2 none, Cond.fieldLink RX2 87 "ShameYards$House" "passageCount" "I", Cond.fieldLink RX2 93 "ShameYards$House" "peopleCount" "I", Cond.fieldLink RX2 99 "ShameYards$House" "walksTogether" "I", Cond.fieldLink RX2 102 "ShameYards$House" "seenCount" "I", Cond.fieldLink RX2 30 "ShameYards$House" "oneEnd" "[I", Cond.methodLink RX2 105 arraycopyName, Cond.native arraycopyName, Cond.static arraycopyName, Cond.initialized "java/lang/System", Cond.fieldLink RX2 34 "ShameYards$House" "otherEnd" "[I"]
def wsX11_image_r2 : List Cond := [Cond.fieldLink RX2 37 "ShameYards$House" "lengths" "[I", Cond.fieldLink RX2 40 "ShameYards$House" "kinds" "[I", Cond.fieldLink RX2 43 "ShameYards$House" "deeds" "[I", Cond.fieldLink RX2 46 "ShameYards$House" "lies" "[I", Cond.fieldLink RX2 49 "ShameYards$House" "places" "[I", Cond.fieldLink RX2 52 "ShameYards$House" "taken" "[I", Cond.fieldLink RX2 55 "ShameYards$House" "seenPerson" "[I", Cond.fieldLink RX2 58 "ShameYards$House" "seenPassage" "[I", Cond.fieldLink RX2 61 "ShameYards$House" "seenWith" "[I", Cond.fieldLink RX2 64 "ShameYards$House" "seenSteps" "[I", Cond.methodLink RX11 233 yX2_sumOfPeople, Cond.instanceMethod yX2_sumOfPeople, Cond.selects RX2 yX2_sumOfPeople yX2_sumOfPeople, Cond.code yX2_sumOfPeople cX2_sumOfPeople 4 (some .int)]
def wsX11_image : List Cond := .code yX11_image cX11_image 1 (some .int) :: ((wsX11_image_r1 ++ wsX11_image_r2) ++ wsX110 ++ wsX20)
def wsX11_restore_r1 : List Cond := [Cond.fieldLink RX11 67 "ShameYards" "imageStands" "Z", Cond.fieldLink RX11 19 "ShameYards" "now" "LShameYards$House;", Cond.fieldLink RX11 23 "ShameYards" "kept" "LShameYards$House;", Cond.fieldLink RX11 98 "ShameYards$House" "taken" "[I", Cond.methodLink RX11 230 yX2_copyFrom, Cond.instanceMethod yX2_copyFrom, Cond.selects RX2 yX2_copyFrom yX2_copyFrom, Cond.initialized RX2, Cond.code yX2_copyFrom cX2_copyFrom 2 none, Cond.fieldLink RX2 77 "ShameYards$House" "roomCount" "I", Cond.fieldLink RX2 87 "ShameYards$House" "passageCount" "I", Cond.fieldLink RX2 93 "ShameYards$House" "peopleCount" "I", Cond.fieldLink RX2 99 "ShameYards$House" "walksTogether" "I", Cond.fieldLink RX2 102 "ShameYards$House" "seenCount" "I", Cond.fieldLink RX2 30 "ShameYards$House" "oneEnd" "[I", Cond.methodLink RX2 105 arraycopyName, Cond.native arraycopyName, Cond.static arraycopyName, Cond.initialized "java/lang/System", Cond.fieldLink RX2 34 "ShameYards$House" "otherEnd" "[I", Cond.fieldLink RX2 37 "ShameYards$House" "lengths" "[I", Cond.fieldLink RX2 40 "ShameYards$House" "kinds" "[I", Cond.fieldLink RX2 43 "ShameYards$House" "deeds" "[I", Cond.fieldLink RX2 46 "ShameYards$House" "lies" "[I"]
def wsX11_restore_r2 : List Cond := [Cond.fieldLink RX2 49 "ShameYards$House" "places" "[I", Cond.fieldLink RX2 52 "ShameYards$House" "taken" "[I", Cond.fieldLink RX2 55 "ShameYards$House" "seenPerson" "[I", Cond.fieldLink RX2 58 "ShameYards$House" "seenPassage" "[I", Cond.fieldLink RX2 61 "ShameYards$House" "seenWith" "[I", Cond.fieldLink RX2 64 "ShameYards$House" "seenSteps" "[I", Cond.methodLink RX11 233 yX2_sumOfPeople, Cond.instanceMethod yX2_sumOfPeople, Cond.selects RX2 yX2_sumOfPeople yX2_sumOfPeople, Cond.code yX2_sumOfPeople cX2_sumOfPeople 4 (some .int)]
def wsX11_restore : List Cond := .code yX11_restore cX11_restore 1 (some .int) :: ((wsX11_restore_r1 ++ wsX11_restore_r2) ++ wsX110 ++ wsX20)
def wsX11_count : List Cond := .code yX11_count cX11_count 2 (some .int) :: ([.fieldLink RX11 19 "ShameYards" "now" "LShameYards$House;", .fieldLink RX11 237 "ShameYards$House" "roomCount" "I", .fieldLink RX11 240 "ShameYards$House" "passageCount" "I", .fieldLink RX11 74 "ShameYards$House" "peopleCount" "I", .fieldLink RX11 89 "ShameYards$House" "deeds" "[I", .fieldLink RX11 92 "ShameYards$House" "lies" "[I", .fieldLink RX11 98 "ShameYards$House" "taken" "[I", .fieldLink RX11 243 "ShameYards$House" "walksTogether" "I", .fieldLink RX11 211 "ShameYards$House" "seenCount" "I", .fieldLink RX11 10 "ShameYards" "page" "LShameYards$Page;", .fieldLink RX11 47 "ShameYards$Page" "size" "I", .fieldLink RX11 71 "ShameYards" "reads" "I", .fieldLink RX11 173 "ShameYards" "sends" "I", .methodLink RX11 233 yX2_sumOfPeople, .instanceMethod yX2_sumOfPeople, .selects RX2 yX2_sumOfPeople yX2_sumOfPeople, .initialized RX2, .code yX2_sumOfPeople cX2_sumOfPeople 4 (some .int), .fieldLink RX2 93 "ShameYards$House" "peopleCount" "I", .methodLink RX11 246 yX2_peopleInRoomZero, .instanceMethod yX2_peopleInRoomZero, .selects RX2 yX2_peopleInRoomZero yX2_peopleInRoomZero, .code yX2_peopleInRoomZero cX2_peopleInRoomZero 3 (some .int), .fieldLink RX2 49 "ShameYards$House" "places" "[I"] ++ wsX110 ++ wsX20 ++ wsX50)
def wsX11_mix : List Cond := .code yX11_mix cX11_mix 4 (some .long) :: ([.constantLong RX11 268 (31)])
def wsX11_mixWays_r1 : List Cond := [Cond.fieldLink RX11 19 "ShameYards" "now" "LShameYards$House;", Cond.fieldLink RX11 95 "ShameYards$House" "places" "[I", Cond.fieldLink RX11 237 "ShameYards$House" "roomCount" "I", Cond.fieldLink RX11 29 "ShameYards" "ways" "LShameYards$Ways;", Cond.methodLink RX11 158 yX9_measure, Cond.instanceMethod yX9_measure, Cond.selects RX9 yX9_measure yX9_measure, Cond.initialized RX9, Cond.code yX9_measure cX9_measure 6 none, Cond.fieldLink RX9 34 "ShameYards$House" "passageCount" "I", Cond.fieldLink RX9 9 "ShameYards$Ways" "tolls" "[I", Cond.fieldLink RX9 15 "ShameYards$Ways" "reach" "[I", Cond.constant RX9 29 (1000000), Cond.fieldLink RX9 49 "ShameYards$House" "roomCount" "I", Cond.fieldLink RX9 52 "ShameYards$House" "oneEnd" "[I", Cond.fieldLink RX9 55 "ShameYards$House" "otherEnd" "[I", Cond.methodLink RX9 39 yX2_aloneSteps, Cond.instanceMethod yX2_aloneSteps, Cond.selects RX2 yX2_aloneSteps yX2_aloneSteps, Cond.initialized RX2, Cond.code yX2_aloneSteps cX2_aloneSteps 3 (some .int), Cond.fieldLink RX2 37 "ShameYards$House" "lengths" "[I", Cond.fieldLink RX2 43 "ShameYards$House" "deeds" "[I", Cond.fieldLink RX2 46 "ShameYards$House" "lies" "[I"]
def wsX11_mixWays_r2 : List Cond := [Cond.methodLink RX2 118 yX2_clerk, Cond.instanceMethod yX2_clerk, Cond.selects RX2 yX2_clerk yX2_clerk, Cond.code yX2_clerk cX2_clerk 2 (some (.object "ShameYards$Clerk")), Cond.fieldLink RX2 24 "ShameYards$House" "clerks" "[LShameYards$Clerk;", Cond.fieldLink RX2 40 "ShameYards$House" "kinds" "[I", Cond.methodLink RX2 122 ⟨"ShameYards$Clerk", "yards", "(III)I"⟩, Cond.sameMethod "ShameYards$Clerk" "ShameYards$Clerk" "yards" "(III)I", Cond.instanceMethod ⟨"ShameYards$Clerk", "yards", "(III)I"⟩, Cond.selects RX0 ⟨"ShameYards$Clerk", "yards", "(III)I"⟩ yX0_yards, Cond.instanceMethod yX0_yards, Cond.initialized RX0, Cond.code yX0_yards cX0_yards 4 (some .int), Cond.methodLink RX0 7 yX1_yards, Cond.superclass RX0 RX1, Cond.instanceMethod yX1_yards, Cond.initialized RX1, Cond.code yX1_yards cX1_yards 4 (some .int), Cond.methodLink RX2 122 yX1_yards, Cond.selects RX1 yX1_yards yX1_yards, Cond.selects RX3 ⟨"ShameYards$Clerk", "yards", "(III)I"⟩ yX3_yards, Cond.instanceMethod yX3_yards, Cond.initialized RX3, Cond.code yX3_yards cX3_yards 4 (some .int)]
def wsX11_mixWays_r3 : List Cond := [Cond.methodLink RX3 7 yX4_yards, Cond.sameMethod "ShameYards$Minister" "ShameYards$Minister" "yards" "(III)I", Cond.superclass RX3 RX4, Cond.instanceMethod yX4_yards, Cond.initialized RX4, Cond.code yX4_yards cX4_yards 4 (some .int), Cond.selects RX4 ⟨"ShameYards$Clerk", "yards", "(III)I"⟩ yX4_yards, Cond.selects RX10 ⟨"ShameYards$Clerk", "yards", "(III)I"⟩ yX10_yards, Cond.instanceMethod yX10_yards, Cond.initialized RX10, Cond.code yX10_yards cX10_yards 4 (some .int), Cond.methodLink RX10 7 yX1_yards, Cond.superclass RX10 RX1, Cond.methodLink RX9 43 yJ7_fill_53178, Cond.static yJ7_fill_53178, Cond.initialized RJ7, Cond.code yJ7_fill_53178 cJ7_fill_53178 4 none, Cond.methodLink RX9 58 yX9_shorten, Cond.instanceMethod yX9_shorten, Cond.selects RX9 yX9_shorten yX9_shorten, Cond.code yX9_shorten cX9_shorten 4 none, Cond.methodLink RX9 62 Lib.Math.min.name, Cond.static Lib.Math.min.name, Cond.initialized "java/lang/Math"]
def wsX11_mixWays_r4 : List Cond := [Cond.code Lib.Math.min.name Lib.Math.min.code 2 (some .int), Cond.methodLink RX11 162 yX9_stepsFrom, Cond.instanceMethod yX9_stepsFrom, Cond.selects RX9 yX9_stepsFrom yX9_stepsFrom, Cond.code yX9_stepsFrom cX9_stepsFrom 2 (some .int), Cond.methodLink RX11 251 yX11_mix, Cond.static yX11_mix, Cond.initialized RX11, Cond.code yX11_mix cX11_mix 4 (some .long), Cond.constantLong RX11 268 (31), Cond.methodLink RX11 166 yX9_legFrom, Cond.instanceMethod yX9_legFrom, Cond.selects RX9 yX9_legFrom yX9_legFrom, Cond.code yX9_legFrom cX9_legFrom 7 (some .int), Cond.methodLink RX9 67 yX9_nextLeg, Cond.instanceMethod yX9_nextLeg, Cond.selects RX9 yX9_nextLeg yX9_nextLeg, Cond.code yX9_nextLeg cX9_nextLeg 4 (some .int), Cond.methodLink RX9 74 yX2_endsAt, Cond.instanceMethod yX2_endsAt, Cond.selects RX2 yX2_endsAt yX2_endsAt, Cond.code yX2_endsAt cX2_endsAt 3 (some .boolean), Cond.fieldLink RX2 30 "ShameYards$House" "oneEnd" "[I", Cond.fieldLink RX2 34 "ShameYards$House" "otherEnd" "[I"]
def wsX11_mixWays_r5 : List Cond := [Cond.methodLink RX9 71 yX2_across, Cond.instanceMethod yX2_across, Cond.selects RX2 yX2_across yX2_across, Cond.code yX2_across cX2_across 3 (some .int)]
def wsX11_mixWays : List Cond := .code yX11_mixWays cX11_mixWays 8 (some .long) :: ((wsX11_mixWays_r1 ++ (wsX11_mixWays_r2 ++ (wsX11_mixWays_r3 ++ (wsX11_mixWays_r4 ++ wsX11_mixWays_r5)))) ++ wsX110 ++ wsX20 ++ wsX90)
def wsX11_mixPassage_r1 : List Cond := [Cond.fieldLink RX11 36 "ShameYards" "pairing" "LShameYards$Pairing;", Cond.fieldLink RX11 19 "ShameYards" "now" "LShameYards$House;", Cond.fieldLink RX11 190 "ShameYards$Pairing" "leastMost" "I", Cond.methodLink RX11 129 yX11_tellPassage, Cond.instanceMethod yX11_tellPassage, Cond.selects RX11 yX11_tellPassage yX11_tellPassage, Cond.initialized RX11, Cond.code yX11_tellPassage cX11_tellPassage 3 (some .int), Cond.fieldLink RX11 132 "ShameYards$House" "oneEnd" "[I", Cond.fieldLink RX11 135 "ShameYards$House" "otherEnd" "[I", Cond.fieldLink RX11 138 "ShameYards$House" "lengths" "[I", Cond.methodLink RX11 251 yX11_mix, Cond.static yX11_mix, Cond.code yX11_mix cX11_mix 4 (some .long), Cond.constantLong RX11 268 (31), Cond.methodLink RX11 186 yX6_arrange, Cond.instanceMethod yX6_arrange, Cond.selects RX6 yX6_arrange yX6_arrange, Cond.initialized RX6, Cond.code yX6_arrange cX6_arrange 5 none, Cond.fieldLink RX6 23 "ShameYards$House" "peopleCount" "I", Cond.fieldLink RX6 29 "ShameYards$Pairing" "people" "I", Cond.fieldLink RX6 11 "ShameYards$Pairing" "has" "[[I", Cond.constant RX6 40 (1000000)]
def wsX11_mixPassage_r2 : List Cond := [Cond.fieldLink RX6 41 "ShameYards$Pairing" "leastMost" "I", Cond.fieldLink RX6 44 "ShameYards$Pairing" "leastPairs" "I", Cond.methodLink RX6 32 yX2_aloneSteps, Cond.instanceMethod yX2_aloneSteps, Cond.selects RX2 yX2_aloneSteps yX2_aloneSteps, Cond.initialized RX2, Cond.code yX2_aloneSteps cX2_aloneSteps 3 (some .int), Cond.fieldLink RX2 37 "ShameYards$House" "lengths" "[I", Cond.fieldLink RX2 43 "ShameYards$House" "deeds" "[I", Cond.fieldLink RX2 46 "ShameYards$House" "lies" "[I", Cond.methodLink RX2 118 yX2_clerk, Cond.instanceMethod yX2_clerk, Cond.selects RX2 yX2_clerk yX2_clerk, Cond.code yX2_clerk cX2_clerk 2 (some (.object "ShameYards$Clerk")), Cond.fieldLink RX2 24 "ShameYards$House" "clerks" "[LShameYards$Clerk;", Cond.fieldLink RX2 40 "ShameYards$House" "kinds" "[I", Cond.methodLink RX2 122 ⟨"ShameYards$Clerk", "yards", "(III)I"⟩, Cond.sameMethod "ShameYards$Clerk" "ShameYards$Clerk" "yards" "(III)I", Cond.instanceMethod ⟨"ShameYards$Clerk", "yards", "(III)I"⟩, Cond.selects RX0 ⟨"ShameYards$Clerk", "yards", "(III)I"⟩ yX0_yards, Cond.instanceMethod yX0_yards, Cond.initialized RX0, Cond.code yX0_yards cX0_yards 4 (some .int), Cond.methodLink RX0 7 yX1_yards]
def wsX11_mixPassage_r3 : List Cond := [Cond.superclass RX0 RX1, Cond.instanceMethod yX1_yards, Cond.initialized RX1, Cond.code yX1_yards cX1_yards 4 (some .int), Cond.methodLink RX2 122 yX1_yards, Cond.selects RX1 yX1_yards yX1_yards, Cond.selects RX3 ⟨"ShameYards$Clerk", "yards", "(III)I"⟩ yX3_yards, Cond.instanceMethod yX3_yards, Cond.initialized RX3, Cond.code yX3_yards cX3_yards 4 (some .int), Cond.methodLink RX3 7 yX4_yards, Cond.sameMethod "ShameYards$Minister" "ShameYards$Minister" "yards" "(III)I", Cond.superclass RX3 RX4, Cond.instanceMethod yX4_yards, Cond.initialized RX4, Cond.code yX4_yards cX4_yards 4 (some .int), Cond.selects RX4 ⟨"ShameYards$Clerk", "yards", "(III)I"⟩ yX4_yards, Cond.selects RX10 ⟨"ShameYards$Clerk", "yards", "(III)I"⟩ yX10_yards, Cond.instanceMethod yX10_yards, Cond.initialized RX10, Cond.code yX10_yards cX10_yards 4 (some .int), Cond.methodLink RX10 7 yX1_yards, Cond.superclass RX10 RX1, Cond.methodLink RX6 36 yX2_stepsOf]
def wsX11_mixPassage_r4 : List Cond := [Cond.instanceMethod yX2_stepsOf, Cond.selects RX2 yX2_stepsOf yX2_stepsOf, Cond.code yX2_stepsOf cX2_stepsOf 4 (some .int), Cond.methodLink RX2 126 yX2_stepsWithLies, Cond.instanceMethod yX2_stepsWithLies, Cond.selects RX2 yX2_stepsWithLies yX2_stepsWithLies, Cond.code yX2_stepsWithLies cX2_stepsWithLies 7 (some .int), Cond.methodLink RX6 47 yX6_arrangeFrom, Cond.static yX6_arrangeFrom, Cond.code yX6_arrangeFrom cX6_arrangeFrom 6 none, Cond.fieldLink RX6 16 "ShameYards$Pairing" "trial" "[I", Cond.methodLink RX6 59 Lib.Math.max.name, Cond.static Lib.Math.max.name, Cond.initialized "java/lang/Math", Cond.code Lib.Math.max.name Lib.Math.max.code 2 (some .int), Cond.methodLink RX6 51 yX6_isBetter, Cond.instanceMethod yX6_isBetter, Cond.selects RX6 yX6_isBetter yX6_isBetter, Cond.code yX6_isBetter cX6_isBetter 3 (some .boolean), Cond.methodLink RX6 55 yX6_keep, Cond.instanceMethod yX6_keep, Cond.selects RX6 yX6_keep yX6_keep, Cond.code yX6_keep cX6_keep 3 none, Cond.fieldLink RX6 20 "ShameYards$Pairing" "best" "[I"]
def wsX11_mixPassage_r5 : List Cond := [Cond.methodLink RX6 64 arraycopyName, Cond.native arraycopyName, Cond.static arraycopyName, Cond.initialized "java/lang/System", Cond.methodLink RX11 193 yX6_partnerOf, Cond.instanceMethod yX6_partnerOf, Cond.selects RX6 yX6_partnerOf yX6_partnerOf, Cond.code yX6_partnerOf cX6_partnerOf 3 (some .int), Cond.methodLink RX6 70 yX2_hasPerson, Cond.instanceMethod yX2_hasPerson, Cond.selects RX2 yX2_hasPerson yX2_hasPerson, Cond.code yX2_hasPerson cX2_hasPerson 2 (some .boolean), Cond.fieldLink RX2 93 "ShameYards$House" "peopleCount" "I"]
def wsX11_mixPassage : List Cond := .code yX11_mixPassage cX11_mixPassage 7 (some .long) :: ((wsX11_mixPassage_r1 ++ (wsX11_mixPassage_r2 ++ (wsX11_mixPassage_r3 ++ (wsX11_mixPassage_r4 ++ wsX11_mixPassage_r5)))) ++ wsX110 ++ wsX60 ++ wsX20)
def wsX11_digest_r1 : List Cond := [Cond.constantLong RX11 249 (1193), Cond.fieldLink RX11 19 "ShameYards" "now" "LShameYards$House;", Cond.fieldLink RX11 74 "ShameYards$House" "peopleCount" "I", Cond.fieldLink RX11 240 "ShameYards$House" "passageCount" "I", Cond.fieldLink RX11 43 "ShameYards" "wander" "LShameYards$Wander;", Cond.fieldLink RX11 204 "ShameYards$Wander" "above" "J", Cond.fieldLink RX11 208 "ShameYards$Wander" "below" "J", Cond.fieldLink RX11 10 "ShameYards" "page" "LShameYards$Page;", Cond.fieldLink RX11 47 "ShameYards$Page" "size" "I", Cond.methodLink RX11 81 yX11_tellPerson, Cond.instanceMethod yX11_tellPerson, Cond.selects RX11 yX11_tellPerson yX11_tellPerson, Cond.initialized RX11, Cond.code yX11_tellPerson cX11_tellPerson 3 (some .int), Cond.fieldLink RX11 85 "ShameYards$House" "kinds" "[I", Cond.fieldLink RX11 89 "ShameYards$House" "deeds" "[I", Cond.fieldLink RX11 92 "ShameYards$House" "lies" "[I", Cond.fieldLink RX11 95 "ShameYards$House" "places" "[I", Cond.fieldLink RX11 98 "ShameYards$House" "taken" "[I", Cond.methodLink RX11 101 yX7_possibleLies, Cond.static yX7_possibleLies, Cond.initialized RX7, Cond.code yX7_possibleLies cX7_possibleLies 4 (some .int), Cond.methodLink RX7 9 yX7_isAsSeen]
def wsX11_digest_r2 : List Cond := [Cond.static yX7_isAsSeen, Cond.code yX7_isAsSeen cX7_isAsSeen 4 (some .boolean), Cond.fieldLink RX7 15 "ShameYards$House" "seenCount" "I", Cond.fieldLink RX7 21 "ShameYards$House" "seenPerson" "[I", Cond.fieldLink RX7 25 "ShameYards$House" "seenSteps" "[I", Cond.fieldLink RX7 28 "ShameYards$House" "seenPassage" "[I", Cond.fieldLink RX7 31 "ShameYards$House" "seenWith" "[I", Cond.methodLink RX7 34 yX2_stepsWithLies, Cond.instanceMethod yX2_stepsWithLies, Cond.selects RX2 yX2_stepsWithLies yX2_stepsWithLies, Cond.initialized RX2, Cond.code yX2_stepsWithLies cX2_stepsWithLies 7 (some .int), Cond.fieldLink RX2 37 "ShameYards$House" "lengths" "[I", Cond.fieldLink RX2 43 "ShameYards$House" "deeds" "[I", Cond.fieldLink RX2 46 "ShameYards$House" "lies" "[I", Cond.methodLink RX2 118 yX2_clerk, Cond.instanceMethod yX2_clerk, Cond.selects RX2 yX2_clerk yX2_clerk, Cond.code yX2_clerk cX2_clerk 2 (some (.object "ShameYards$Clerk")), Cond.fieldLink RX2 24 "ShameYards$House" "clerks" "[LShameYards$Clerk;", Cond.fieldLink RX2 40 "ShameYards$House" "kinds" "[I", Cond.methodLink RX2 122 ⟨"ShameYards$Clerk", "yards", "(III)I"⟩, Cond.sameMethod "ShameYards$Clerk" "ShameYards$Clerk" "yards" "(III)I", Cond.instanceMethod ⟨"ShameYards$Clerk", "yards", "(III)I"⟩]
def wsX11_digest_r3 : List Cond := [Cond.selects RX0 ⟨"ShameYards$Clerk", "yards", "(III)I"⟩ yX0_yards, Cond.instanceMethod yX0_yards, Cond.initialized RX0, Cond.code yX0_yards cX0_yards 4 (some .int), Cond.methodLink RX0 7 yX1_yards, Cond.superclass RX0 RX1, Cond.instanceMethod yX1_yards, Cond.initialized RX1, Cond.code yX1_yards cX1_yards 4 (some .int), Cond.methodLink RX2 122 yX1_yards, Cond.selects RX1 yX1_yards yX1_yards, Cond.selects RX3 ⟨"ShameYards$Clerk", "yards", "(III)I"⟩ yX3_yards, Cond.instanceMethod yX3_yards, Cond.initialized RX3, Cond.code yX3_yards cX3_yards 4 (some .int), Cond.methodLink RX3 7 yX4_yards, Cond.sameMethod "ShameYards$Minister" "ShameYards$Minister" "yards" "(III)I", Cond.superclass RX3 RX4, Cond.instanceMethod yX4_yards, Cond.initialized RX4, Cond.code yX4_yards cX4_yards 4 (some .int), Cond.selects RX4 ⟨"ShameYards$Clerk", "yards", "(III)I"⟩ yX4_yards, Cond.selects RX10 ⟨"ShameYards$Clerk", "yards", "(III)I"⟩ yX10_yards, Cond.instanceMethod yX10_yards]
def wsX11_digest_r4 : List Cond := [Cond.initialized RX10, Cond.code yX10_yards cX10_yards 4 (some .int), Cond.methodLink RX10 7 yX1_yards, Cond.superclass RX10 RX1, Cond.methodLink RX11 107 yX7_bestQuestion, Cond.static yX7_bestQuestion, Cond.code yX7_bestQuestion cX7_bestQuestion 8 (some .int), Cond.fieldLink RX7 42 "ShameYards$House" "passageCount" "I", Cond.fieldLink RX7 45 "ShameYards$House" "peopleCount" "I", Cond.methodLink RX7 38 yX7_possibleLies, Cond.methodLink RX7 48 yX7_leftAtWorst, Cond.static yX7_leftAtWorst, Cond.code yX7_leftAtWorst cX7_leftAtWorst 10 (some .int), Cond.methodLink RX7 52 Lib.Math.max.name, Cond.static Lib.Math.max.name, Cond.initialized "java/lang/Math", Cond.code Lib.Math.max.name Lib.Math.max.code 2 (some .int), Cond.methodLink RX11 251 yX11_mix, Cond.static yX11_mix, Cond.code yX11_mix cX11_mix 4 (some .long), Cond.constantLong RX11 268 (31), Cond.methodLink RX11 255 yX11_mixWays, Cond.instanceMethod yX11_mixWays, Cond.selects RX11 yX11_mixWays yX11_mixWays]
def wsX11_digest_r5 : List Cond := [Cond.code yX11_mixWays cX11_mixWays 8 (some .long), Cond.fieldLink RX11 237 "ShameYards$House" "roomCount" "I", Cond.fieldLink RX11 29 "ShameYards" "ways" "LShameYards$Ways;", Cond.methodLink RX11 158 yX9_measure, Cond.instanceMethod yX9_measure, Cond.selects RX9 yX9_measure yX9_measure, Cond.initialized RX9, Cond.code yX9_measure cX9_measure 6 none, Cond.fieldLink RX9 34 "ShameYards$House" "passageCount" "I", Cond.fieldLink RX9 9 "ShameYards$Ways" "tolls" "[I", Cond.fieldLink RX9 15 "ShameYards$Ways" "reach" "[I", Cond.constant RX9 29 (1000000), Cond.fieldLink RX9 49 "ShameYards$House" "roomCount" "I", Cond.fieldLink RX9 52 "ShameYards$House" "oneEnd" "[I", Cond.fieldLink RX9 55 "ShameYards$House" "otherEnd" "[I", Cond.methodLink RX9 39 yX2_aloneSteps, Cond.instanceMethod yX2_aloneSteps, Cond.selects RX2 yX2_aloneSteps yX2_aloneSteps, Cond.code yX2_aloneSteps cX2_aloneSteps 3 (some .int), Cond.methodLink RX9 43 yJ7_fill_53178, Cond.static yJ7_fill_53178, Cond.initialized RJ7, Cond.code yJ7_fill_53178 cJ7_fill_53178 4 none, Cond.methodLink RX9 58 yX9_shorten]
def wsX11_digest_r6 : List Cond := [Cond.instanceMethod yX9_shorten, Cond.selects RX9 yX9_shorten yX9_shorten, Cond.code yX9_shorten cX9_shorten 4 none, Cond.methodLink RX9 62 Lib.Math.min.name, Cond.static Lib.Math.min.name, Cond.code Lib.Math.min.name Lib.Math.min.code 2 (some .int), Cond.methodLink RX11 162 yX9_stepsFrom, Cond.instanceMethod yX9_stepsFrom, Cond.selects RX9 yX9_stepsFrom yX9_stepsFrom, Cond.code yX9_stepsFrom cX9_stepsFrom 2 (some .int), Cond.methodLink RX11 166 yX9_legFrom, Cond.instanceMethod yX9_legFrom, Cond.selects RX9 yX9_legFrom yX9_legFrom, Cond.code yX9_legFrom cX9_legFrom 7 (some .int), Cond.methodLink RX9 67 yX9_nextLeg, Cond.instanceMethod yX9_nextLeg, Cond.selects RX9 yX9_nextLeg yX9_nextLeg, Cond.code yX9_nextLeg cX9_nextLeg 4 (some .int), Cond.methodLink RX9 74 yX2_endsAt, Cond.instanceMethod yX2_endsAt, Cond.selects RX2 yX2_endsAt yX2_endsAt, Cond.code yX2_endsAt cX2_endsAt 3 (some .boolean), Cond.fieldLink RX2 30 "ShameYards$House" "oneEnd" "[I", Cond.fieldLink RX2 34 "ShameYards$House" "otherEnd" "[I"]
def wsX11_digest_r7 : List Cond := [Cond.methodLink RX9 71 yX2_across, Cond.instanceMethod yX2_across, Cond.selects RX2 yX2_across yX2_across, Cond.code yX2_across cX2_across 3 (some .int), Cond.methodLink RX11 259 yX11_mixPassage, Cond.instanceMethod yX11_mixPassage, Cond.selects RX11 yX11_mixPassage yX11_mixPassage, Cond.code yX11_mixPassage cX11_mixPassage 7 (some .long), Cond.fieldLink RX11 36 "ShameYards" "pairing" "LShameYards$Pairing;", Cond.fieldLink RX11 190 "ShameYards$Pairing" "leastMost" "I", Cond.methodLink RX11 129 yX11_tellPassage, Cond.instanceMethod yX11_tellPassage, Cond.selects RX11 yX11_tellPassage yX11_tellPassage, Cond.code yX11_tellPassage cX11_tellPassage 3 (some .int), Cond.fieldLink RX11 132 "ShameYards$House" "oneEnd" "[I", Cond.fieldLink RX11 135 "ShameYards$House" "otherEnd" "[I", Cond.fieldLink RX11 138 "ShameYards$House" "lengths" "[I", Cond.methodLink RX11 186 yX6_arrange, Cond.instanceMethod yX6_arrange, Cond.selects RX6 yX6_arrange yX6_arrange, Cond.initialized RX6, Cond.code yX6_arrange cX6_arrange 5 none, Cond.fieldLink RX6 23 "ShameYards$House" "peopleCount" "I", Cond.fieldLink RX6 29 "ShameYards$Pairing" "people" "I"]
def wsX11_digest_r8 : List Cond := [Cond.fieldLink RX6 11 "ShameYards$Pairing" "has" "[[I", Cond.constant RX6 40 (1000000), Cond.fieldLink RX6 41 "ShameYards$Pairing" "leastMost" "I", Cond.fieldLink RX6 44 "ShameYards$Pairing" "leastPairs" "I", Cond.methodLink RX6 32 yX2_aloneSteps, Cond.methodLink RX6 36 yX2_stepsOf, Cond.instanceMethod yX2_stepsOf, Cond.selects RX2 yX2_stepsOf yX2_stepsOf, Cond.code yX2_stepsOf cX2_stepsOf 4 (some .int), Cond.methodLink RX2 126 yX2_stepsWithLies, Cond.methodLink RX6 47 yX6_arrangeFrom, Cond.static yX6_arrangeFrom, Cond.code yX6_arrangeFrom cX6_arrangeFrom 6 none, Cond.fieldLink RX6 16 "ShameYards$Pairing" "trial" "[I", Cond.methodLink RX6 59 Lib.Math.max.name, Cond.methodLink RX6 51 yX6_isBetter, Cond.instanceMethod yX6_isBetter, Cond.selects RX6 yX6_isBetter yX6_isBetter, Cond.code yX6_isBetter cX6_isBetter 3 (some .boolean), Cond.methodLink RX6 55 yX6_keep, Cond.instanceMethod yX6_keep, Cond.selects RX6 yX6_keep yX6_keep, Cond.code yX6_keep cX6_keep 3 none, Cond.fieldLink RX6 20 "ShameYards$Pairing" "best" "[I"]
def wsX11_digest_r9 : List Cond := [Cond.methodLink RX6 64 arraycopyName, Cond.native arraycopyName, Cond.static arraycopyName, Cond.initialized "java/lang/System", Cond.methodLink RX11 193 yX6_partnerOf, Cond.instanceMethod yX6_partnerOf, Cond.selects RX6 yX6_partnerOf yX6_partnerOf, Cond.code yX6_partnerOf cX6_partnerOf 3 (some .int), Cond.methodLink RX6 70 yX2_hasPerson, Cond.instanceMethod yX2_hasPerson, Cond.selects RX2 yX2_hasPerson yX2_hasPerson, Cond.code yX2_hasPerson cX2_hasPerson 2 (some .boolean), Cond.fieldLink RX2 93 "ShameYards$House" "peopleCount" "I", Cond.methodLink RX11 200 yX8_compare, Cond.instanceMethod yX8_compare, Cond.selects RX8 yX8_compare yX8_compare, Cond.initialized RX8, Cond.code yX8_compare cX8_compare 7 none, Cond.fieldLink RX8 32 "ShameYards$House" "places" "[I", Cond.fieldLink RX8 9 "ShameYards$Wander" "chancesOfA" "[J", Cond.fieldLink RX8 15 "ShameYards$Wander" "chancesOfB" "[J", Cond.fieldLink RX8 40 "ShameYards$Wander" "above" "J", Cond.fieldLink RX8 43 "ShameYards$House" "roomCount" "I", Cond.fieldLink RX8 28 "ShameYards$Wander" "below" "J"]
def wsX11_digest_r10 : List Cond := [Cond.constantLong RX8 47 (176400), Cond.methodLink RX8 36 yX8_spread, Cond.instanceMethod yX8_spread, Cond.selects RX8 yX8_spread yX8_spread, Cond.code yX8_spread cX8_spread 7 none, Cond.fieldLink RX8 18 "ShameYards$Wander" "next" "[J", Cond.methodLink RX8 63 arraycopyName, Cond.methodLink RX8 53 yJ7_fill_d0a16, Cond.static yJ7_fill_d0a16, Cond.code yJ7_fill_d0a16 cJ7_fill_d0a16 5 none, Cond.methodLink RX8 59 yX8_shareOut, Cond.instanceMethod yX8_shareOut, Cond.selects RX8 yX8_shareOut yX8_shareOut, Cond.code yX8_shareOut cX8_shareOut 9 none, Cond.constantLong RX8 73 (420), Cond.fieldLink RX8 75 "ShameYards$House" "passageCount" "I", Cond.methodLink RX8 69 yX2_doorsOf, Cond.instanceMethod yX2_doorsOf, Cond.selects RX2 yX2_doorsOf yX2_doorsOf, Cond.code yX2_doorsOf cX2_doorsOf 4 (some .int), Cond.fieldLink RX2 87 "ShameYards$House" "passageCount" "I", Cond.methodLink RX2 130 yX2_endsAt, Cond.methodLink RX8 78 yX2_endsAt, Cond.methodLink RX8 82 yX2_across]
def wsX11_digest_r11 : List Cond := [Cond.methodLink RX8 49 yX8_commonDivisor, Cond.static yX8_commonDivisor, Cond.code yX8_commonDivisor cX8_commonDivisor 11 (some .long), Cond.methodLink RX11 262 yX5_codeAt, Cond.instanceMethod yX5_codeAt, Cond.selects RX5 yX5_codeAt yX5_codeAt, Cond.initialized RX5, Cond.code yX5_codeAt cX5_codeAt 2 (some .int), Cond.fieldLink RX5 15 "ShameYards$Page" "size" "I", Cond.fieldLink RX5 9 "ShameYards$Page" "codes" "[I", Cond.methodLink RX11 265 yX11_count, Cond.instanceMethod yX11_count, Cond.selects RX11 yX11_count yX11_count, Cond.code yX11_count cX11_count 2 (some .int), Cond.fieldLink RX11 243 "ShameYards$House" "walksTogether" "I", Cond.fieldLink RX11 211 "ShameYards$House" "seenCount" "I", Cond.fieldLink RX11 71 "ShameYards" "reads" "I", Cond.fieldLink RX11 173 "ShameYards" "sends" "I", Cond.methodLink RX11 233 yX2_sumOfPeople, Cond.instanceMethod yX2_sumOfPeople, Cond.selects RX2 yX2_sumOfPeople yX2_sumOfPeople, Cond.code yX2_sumOfPeople cX2_sumOfPeople 4 (some .int), Cond.methodLink RX11 246 yX2_peopleInRoomZero, Cond.instanceMethod yX2_peopleInRoomZero]
def wsX11_digest_r12 : List Cond := [Cond.selects RX2 yX2_peopleInRoomZero yX2_peopleInRoomZero, Cond.code yX2_peopleInRoomZero cX2_peopleInRoomZero 3 (some .int), Cond.fieldLink RX2 49 "ShameYards$House" "places" "[I"]
def wsX11_digest : List Cond := .code yX11_digest cX11_digest 5 (some .long) :: ((wsX11_digest_r1 ++ (wsX11_digest_r2 ++ (wsX11_digest_r3 ++ (wsX11_digest_r4 ++ (wsX11_digest_r5 ++ (wsX11_digest_r6 ++ (wsX11_digest_r7 ++ (wsX11_digest_r8 ++ (wsX11_digest_r9 ++ (wsX11_digest_r10 ++ (wsX11_digest_r11 ++ wsX11_digest_r12))))))))))) ++ wsX110 ++ wsX20 ++ wsX80 ++ wsX50 ++ wsX90 ++ wsX60)
def wsX12_init_r1 : List Cond := [Cond.methodLink RX12 1 objectInit, Cond.instanceMethod objectInit, Cond.code objectInit ⟨#[0xb1]⟩ 1 none, Cond.arrayClass .int, Cond.fieldLink RX12 7 "ShameYardsModel" "oneEnd" "[I", Cond.fieldLink RX12 13 "ShameYardsModel" "otherEnd" "[I", Cond.fieldLink RX12 16 "ShameYardsModel" "lengthOf" "[I", Cond.fieldLink RX12 19 "ShameYardsModel" "kindOf" "[I", Cond.fieldLink RX12 22 "ShameYardsModel" "deedsOf" "[I", Cond.fieldLink RX12 25 "ShameYardsModel" "liesOf" "[I", Cond.fieldLink RX12 28 "ShameYardsModel" "roomOf" "[I", Cond.fieldLink RX12 31 "ShameYardsModel" "tookOf" "[I", Cond.fieldLink RX12 34 "ShameYardsModel" "seenPerson" "[I", Cond.fieldLink RX12 37 "ShameYardsModel" "seenPassage" "[I", Cond.fieldLink RX12 40 "ShameYardsModel" "seenWith" "[I", Cond.fieldLink RX12 43 "ShameYardsModel" "seenSteps" "[I", Cond.arrayClass .byte, Cond.fieldLink RX12 46 "ShameYardsModel" "page" "[B", Cond.fieldLink RX12 50 "ShameYardsModel" "farTo" "[I", Cond.fieldLink RX12 53 "ShameYardsModel" "sent" "[I", Cond.fieldLink RX12 56 "ShameYardsModel" "bestSent" "[I", Cond.fieldLink RX12 59 "ShameYardsModel" "farBy" "[I", Cond.fieldLink RX12 62 "ShameYardsModel" "mate" "[I", Cond.fieldLink RX12 65 "ShameYardsModel" "bestMate" "[I"]
def wsX12_init_r2 : List Cond := [Cond.arrayClass .long, Cond.fieldLink RX12 68 "ShameYardsModel" "likely" "[J", Cond.fieldLink RX12 72 "ShameYardsModel" "next" "[J", Cond.fieldLink RX12 75 "ShameYardsModel" "savedLies" "[I", Cond.fieldLink RX12 78 "ShameYardsModel" "savedRoom" "[I", Cond.fieldLink RX12 81 "ShameYardsModel" "keptLength" "[I", Cond.fieldLink RX12 84 "ShameYardsModel" "keptDeeds" "[I", Cond.fieldLink RX12 87 "ShameYardsModel" "keptLies" "[I", Cond.fieldLink RX12 90 "ShameYardsModel" "keptRoom" "[I", Cond.fieldLink RX12 93 "ShameYardsModel" "keptTook" "[I", Cond.fieldLink RX12 96 "ShameYardsModel" "keptPerson" "[I", Cond.fieldLink RX12 99 "ShameYardsModel" "keptPassage" "[I", Cond.fieldLink RX12 102 "ShameYardsModel" "keptWith" "[I", Cond.fieldLink RX12 105 "ShameYardsModel" "keptSteps" "[I"]
def wsX12_init : List Cond := .code yX12_init cX12_init 1 none :: ((wsX12_init_r1 ++ wsX12_init_r2) ++ wsX120)
def wsX12_within : List Cond := .code yX12_within cX12_within 3 (some .boolean) :: ([])
def wsX12_isIn : List Cond := .code yX12_isIn cX12_isIn 2 (some .boolean) :: ([])
def wsX12_divisor : List Cond := .code yX12_divisor cX12_divisor 10 (some .long) :: ([])
def wsX12_letter : List Cond := .code yX12_letter cX12_letter 2 (some .int) :: ([.fieldLink RX12 112 "ShameYardsModel" "pageLength" "I", .fieldLink RX12 46 "ShameYardsModel" "page" "[B", .methodLink RX12 108 yX12_within, .static yX12_within, .initialized RX12, .code yX12_within cX12_within 3 (some .boolean)] ++ wsX120)
def wsX12_blank : List Cond := .code yX12_blank cX12_blank 2 (some .int) :: ([.fieldLink RX12 112 "ShameYardsModel" "pageLength" "I"] ++ wsX120)
def wsX12_kindBy : List Cond := .code yX12_kindBy cX12_kindBy 1 (some .int) :: ([])
def wsX12_at : List Cond := .code yX12_at cX12_at 2 (some .int) :: ([.fieldLink RX12 112 "ShameYardsModel" "pageLength" "I", .fieldLink RX12 46 "ShameYardsModel" "page" "[B"] ++ wsX120)
def wsX12_isFigure : List Cond := .code yX12_isFigure cX12_isFigure 4 (some .boolean) :: ([.methodLink RX12 116 yX12_at, .instanceMethod yX12_at, .selects RX12 yX12_at yX12_at, .initialized RX12, .code yX12_at cX12_at 2 (some .int), .fieldLink RX12 112 "ShameYardsModel" "pageLength" "I", .fieldLink RX12 46 "ShameYardsModel" "page" "[B", .methodLink RX12 108 yX12_within, .static yX12_within, .code yX12_within cX12_within 3 (some .boolean)] ++ wsX120)
def wsX12_readPassage : List Cond := .code yX12_readPassage cX12_readPassage 3 (some .int) :: ([.methodLink RX12 120 yX12_isFigure, .instanceMethod yX12_isFigure, .selects RX12 yX12_isFigure yX12_isFigure, .initialized RX12, .code yX12_isFigure cX12_isFigure 4 (some .boolean), .methodLink RX12 116 yX12_at, .instanceMethod yX12_at, .selects RX12 yX12_at yX12_at, .code yX12_at cX12_at 2 (some .int), .fieldLink RX12 112 "ShameYardsModel" "pageLength" "I", .fieldLink RX12 46 "ShameYardsModel" "page" "[B", .methodLink RX12 108 yX12_within, .static yX12_within, .code yX12_within cX12_within 3 (some .boolean)] ++ wsX120)
def wsX12_readPerson : List Cond := .code yX12_readPerson cX12_readPerson 2 (some .int) :: ([.methodLink RX12 116 yX12_at, .instanceMethod yX12_at, .selects RX12 yX12_at yX12_at, .initialized RX12, .code yX12_at cX12_at 2 (some .int), .fieldLink RX12 112 "ShameYardsModel" "pageLength" "I", .fieldLink RX12 46 "ShameYardsModel" "page" "[B", .methodLink RX12 123 yX12_kindBy, .static yX12_kindBy, .code yX12_kindBy cX12_kindBy 1 (some .int), .methodLink RX12 120 yX12_isFigure, .instanceMethod yX12_isFigure, .selects RX12 yX12_isFigure yX12_isFigure, .code yX12_isFigure cX12_isFigure 4 (some .boolean), .methodLink RX12 108 yX12_within, .static yX12_within, .code yX12_within cX12_within 3 (some .boolean)] ++ wsX120)
def wsX12_readPeople : List Cond := .code yX12_readPeople cX12_readPeople 4 (some .int) :: ([.fieldLink RX12 126 "ShameYardsModel" "newPeople" "I", .fieldLink RX12 112 "ShameYardsModel" "pageLength" "I", .fieldLink RX12 132 "ShameYardsModel" "isWhole" "Z", .methodLink RX12 129 yX12_readPerson, .instanceMethod yX12_readPerson, .selects RX12 yX12_readPerson yX12_readPerson, .initialized RX12, .code yX12_readPerson cX12_readPerson 2 (some .int), .methodLink RX12 116 yX12_at, .instanceMethod yX12_at, .selects RX12 yX12_at yX12_at, .code yX12_at cX12_at 2 (some .int), .fieldLink RX12 46 "ShameYardsModel" "page" "[B", .methodLink RX12 123 yX12_kindBy, .static yX12_kindBy, .code yX12_kindBy cX12_kindBy 1 (some .int), .methodLink RX12 120 yX12_isFigure, .instanceMethod yX12_isFigure, .selects RX12 yX12_isFigure yX12_isFigure, .code yX12_isFigure cX12_isFigure 4 (some .boolean), .methodLink RX12 108 yX12_within, .static yX12_within, .code yX12_within cX12_within 3 (some .boolean)] ++ wsX120)
def wsX12_read_r1 : List Cond := [Cond.fieldLink RX12 132 "ShameYardsModel" "isWhole" "Z", Cond.fieldLink RX12 136 "ShameYardsModel" "newPassages" "I", Cond.fieldLink RX12 126 "ShameYardsModel" "newPeople" "I", Cond.methodLink RX12 120 yX12_isFigure, Cond.instanceMethod yX12_isFigure, Cond.selects RX12 yX12_isFigure yX12_isFigure, Cond.initialized RX12, Cond.code yX12_isFigure cX12_isFigure 4 (some .boolean), Cond.methodLink RX12 116 yX12_at, Cond.instanceMethod yX12_at, Cond.selects RX12 yX12_at yX12_at, Cond.code yX12_at cX12_at 2 (some .int), Cond.fieldLink RX12 112 "ShameYardsModel" "pageLength" "I", Cond.fieldLink RX12 46 "ShameYardsModel" "page" "[B", Cond.methodLink RX12 108 yX12_within, Cond.static yX12_within, Cond.code yX12_within cX12_within 3 (some .boolean), Cond.methodLink RX12 139 yX12_readPassage, Cond.instanceMethod yX12_readPassage, Cond.selects RX12 yX12_readPassage yX12_readPassage, Cond.code yX12_readPassage cX12_readPassage 3 (some .int), Cond.methodLink RX12 143 yX12_readPeople, Cond.instanceMethod yX12_readPeople, Cond.selects RX12 yX12_readPeople yX12_readPeople]
def wsX12_read_r2 : List Cond := [Cond.code yX12_readPeople cX12_readPeople 4 (some .int), Cond.methodLink RX12 129 yX12_readPerson, Cond.instanceMethod yX12_readPerson, Cond.selects RX12 yX12_readPerson yX12_readPerson, Cond.code yX12_readPerson cX12_readPerson 2 (some .int), Cond.methodLink RX12 123 yX12_kindBy, Cond.static yX12_kindBy, Cond.code yX12_kindBy cX12_kindBy 1 (some .int)]
def wsX12_read : List Cond := .code yX12_read cX12_read 3 (some .int) :: ((wsX12_read_r1 ++ wsX12_read_r2) ++ wsX120)
def wsX12_fault_r1 : List Cond := [Cond.methodLink RX12 146 yX12_read, Cond.instanceMethod yX12_read, Cond.selects RX12 yX12_read yX12_read, Cond.initialized RX12, Cond.code yX12_read cX12_read 3 (some .int), Cond.fieldLink RX12 132 "ShameYardsModel" "isWhole" "Z", Cond.fieldLink RX12 136 "ShameYardsModel" "newPassages" "I", Cond.fieldLink RX12 126 "ShameYardsModel" "newPeople" "I", Cond.methodLink RX12 120 yX12_isFigure, Cond.instanceMethod yX12_isFigure, Cond.selects RX12 yX12_isFigure yX12_isFigure, Cond.code yX12_isFigure cX12_isFigure 4 (some .boolean), Cond.methodLink RX12 116 yX12_at, Cond.instanceMethod yX12_at, Cond.selects RX12 yX12_at yX12_at, Cond.code yX12_at cX12_at 2 (some .int), Cond.fieldLink RX12 112 "ShameYardsModel" "pageLength" "I", Cond.fieldLink RX12 46 "ShameYardsModel" "page" "[B", Cond.methodLink RX12 108 yX12_within, Cond.static yX12_within, Cond.code yX12_within cX12_within 3 (some .boolean), Cond.methodLink RX12 139 yX12_readPassage, Cond.instanceMethod yX12_readPassage, Cond.selects RX12 yX12_readPassage yX12_readPassage]
def wsX12_fault_r2 : List Cond := [Cond.code yX12_readPassage cX12_readPassage 3 (some .int), Cond.methodLink RX12 143 yX12_readPeople, Cond.instanceMethod yX12_readPeople, Cond.selects RX12 yX12_readPeople yX12_readPeople, Cond.code yX12_readPeople cX12_readPeople 4 (some .int), Cond.methodLink RX12 129 yX12_readPerson, Cond.instanceMethod yX12_readPerson, Cond.selects RX12 yX12_readPerson yX12_readPerson, Cond.code yX12_readPerson cX12_readPerson 2 (some .int), Cond.methodLink RX12 123 yX12_kindBy, Cond.static yX12_kindBy, Cond.code yX12_kindBy cX12_kindBy 1 (some .int)]
def wsX12_fault : List Cond := .code yX12_fault cX12_fault 1 (some .int) :: ((wsX12_fault_r1 ++ wsX12_fault_r2) ++ wsX120)
def wsX12_ministry_r1 : List Cond := [Cond.fieldLink RX12 132 "ShameYardsModel" "isWhole" "Z", Cond.fieldLink RX12 46 "ShameYardsModel" "page" "[B", Cond.fieldLink RX12 150 "ShameYardsModel" "rooms" "I", Cond.fieldLink RX12 136 "ShameYardsModel" "newPassages" "I", Cond.fieldLink RX12 153 "ShameYardsModel" "passages" "I", Cond.fieldLink RX12 126 "ShameYardsModel" "newPeople" "I", Cond.fieldLink RX12 156 "ShameYardsModel" "people" "I", Cond.fieldLink RX12 7 "ShameYardsModel" "oneEnd" "[I", Cond.fieldLink RX12 13 "ShameYardsModel" "otherEnd" "[I", Cond.fieldLink RX12 16 "ShameYardsModel" "lengthOf" "[I", Cond.fieldLink RX12 19 "ShameYardsModel" "kindOf" "[I", Cond.fieldLink RX12 22 "ShameYardsModel" "deedsOf" "[I", Cond.fieldLink RX12 25 "ShameYardsModel" "liesOf" "[I", Cond.fieldLink RX12 28 "ShameYardsModel" "roomOf" "[I", Cond.fieldLink RX12 31 "ShameYardsModel" "tookOf" "[I", Cond.fieldLink RX12 159 "ShameYardsModel" "together" "I", Cond.fieldLink RX12 162 "ShameYardsModel" "ministries" "I", Cond.fieldLink RX12 165 "ShameYardsModel" "seen" "I", Cond.fieldLink RX12 112 "ShameYardsModel" "pageLength" "I", Cond.methodLink RX12 146 yX12_read, Cond.instanceMethod yX12_read, Cond.selects RX12 yX12_read yX12_read, Cond.initialized RX12, Cond.code yX12_read cX12_read 3 (some .int)]
def wsX12_ministry_r2 : List Cond := [Cond.methodLink RX12 120 yX12_isFigure, Cond.instanceMethod yX12_isFigure, Cond.selects RX12 yX12_isFigure yX12_isFigure, Cond.code yX12_isFigure cX12_isFigure 4 (some .boolean), Cond.methodLink RX12 116 yX12_at, Cond.instanceMethod yX12_at, Cond.selects RX12 yX12_at yX12_at, Cond.code yX12_at cX12_at 2 (some .int), Cond.methodLink RX12 108 yX12_within, Cond.static yX12_within, Cond.code yX12_within cX12_within 3 (some .boolean), Cond.methodLink RX12 139 yX12_readPassage, Cond.instanceMethod yX12_readPassage, Cond.selects RX12 yX12_readPassage yX12_readPassage, Cond.code yX12_readPassage cX12_readPassage 3 (some .int), Cond.methodLink RX12 143 yX12_readPeople, Cond.instanceMethod yX12_readPeople, Cond.selects RX12 yX12_readPeople yX12_readPeople, Cond.code yX12_readPeople cX12_readPeople 4 (some .int), Cond.methodLink RX12 129 yX12_readPerson, Cond.instanceMethod yX12_readPerson, Cond.selects RX12 yX12_readPerson yX12_readPerson, Cond.code yX12_readPerson cX12_readPerson 2 (some .int), Cond.methodLink RX12 123 yX12_kindBy]
def wsX12_ministry_r3 : List Cond := [Cond.static yX12_kindBy, Cond.code yX12_kindBy cX12_kindBy 1 (some .int)]
def wsX12_ministry : List Cond := .code yX12_ministry cX12_ministry 3 (some .int) :: ((wsX12_ministry_r1 ++ (wsX12_ministry_r2 ++ wsX12_ministry_r3)) ++ wsX120)
def wsX12_isPerson : List Cond := .code yX12_isPerson cX12_isPerson 2 (some .boolean) :: ([.fieldLink RX12 156 "ShameYardsModel" "people" "I", .methodLink RX12 108 yX12_within, .static yX12_within, .initialized RX12, .code yX12_within cX12_within 3 (some .boolean)] ++ wsX120)
def wsX12_isPassage : List Cond := .code yX12_isPassage cX12_isPassage 2 (some .boolean) :: ([.fieldLink RX12 153 "ShameYardsModel" "passages" "I", .methodLink RX12 108 yX12_within, .static yX12_within, .initialized RX12, .code yX12_within cX12_within 3 (some .boolean)] ++ wsX120)
def wsX12_isRoom : List Cond := .code yX12_isRoom cX12_isRoom 2 (some .boolean) :: ([.fieldLink RX12 150 "ShameYardsModel" "rooms" "I", .methodLink RX12 108 yX12_within, .static yX12_within, .initialized RX12, .code yX12_within cX12_within 3 (some .boolean)] ++ wsX120)
def wsX12_isWith : List Cond := .code yX12_isWith cX12_isWith 3 (some .boolean) :: ([.methodLink RX12 168 yX12_isPerson, .instanceMethod yX12_isPerson, .selects RX12 yX12_isPerson yX12_isPerson, .initialized RX12, .code yX12_isPerson cX12_isPerson 2 (some .boolean), .fieldLink RX12 156 "ShameYardsModel" "people" "I", .methodLink RX12 108 yX12_within, .static yX12_within, .code yX12_within cX12_within 3 (some .boolean)] ++ wsX120)
def wsX12_alone : List Cond := .code yX12_alone cX12_alone 5 (some .int) :: ([.fieldLink RX12 16 "ShameYardsModel" "lengthOf" "[I", .fieldLink RX12 22 "ShameYardsModel" "deedsOf" "[I", .fieldLink RX12 25 "ShameYardsModel" "liesOf" "[I", .fieldLink RX12 19 "ShameYardsModel" "kindOf" "[I"] ++ wsX120)
def wsX12_stepsOf : List Cond := .code yX12_stepsOf cX12_stepsOf 4 (some .int) :: ([.methodLink RX12 172 yX12_alone, .instanceMethod yX12_alone, .selects RX12 yX12_alone yX12_alone, .initialized RX12, .code yX12_alone cX12_alone 5 (some .int), .fieldLink RX12 16 "ShameYardsModel" "lengthOf" "[I", .fieldLink RX12 22 "ShameYardsModel" "deedsOf" "[I", .fieldLink RX12 25 "ShameYardsModel" "liesOf" "[I", .fieldLink RX12 19 "ShameYardsModel" "kindOf" "[I"] ++ wsX120)
def wsX12_stepsWith : List Cond := .code yX12_stepsWith cX12_stepsWith 7 (some .int) :: ([.fieldLink RX12 25 "ShameYardsModel" "liesOf" "[I", .methodLink RX12 194 yX12_stepsOf, .instanceMethod yX12_stepsOf, .selects RX12 yX12_stepsOf yX12_stepsOf, .initialized RX12, .code yX12_stepsOf cX12_stepsOf 4 (some .int), .methodLink RX12 172 yX12_alone, .instanceMethod yX12_alone, .selects RX12 yX12_alone yX12_alone, .code yX12_alone cX12_alone 5 (some .int), .fieldLink RX12 16 "ShameYardsModel" "lengthOf" "[I", .fieldLink RX12 22 "ShameYardsModel" "deedsOf" "[I", .fieldLink RX12 19 "ShameYardsModel" "kindOf" "[I"] ++ wsX120)
def wsX12_liesBits : List Cond := .code yX12_liesBits cX12_liesBits 6 (some .int) :: ([.fieldLink RX12 165 "ShameYardsModel" "seen" "I", .fieldLink RX12 34 "ShameYardsModel" "seenPerson" "[I", .fieldLink RX12 37 "ShameYardsModel" "seenPassage" "[I", .fieldLink RX12 40 "ShameYardsModel" "seenWith" "[I", .fieldLink RX12 43 "ShameYardsModel" "seenSteps" "[I", .methodLink RX12 279 yX12_stepsWith, .instanceMethod yX12_stepsWith, .selects RX12 yX12_stepsWith yX12_stepsWith, .initialized RX12, .code yX12_stepsWith cX12_stepsWith 7 (some .int), .fieldLink RX12 25 "ShameYardsModel" "liesOf" "[I", .methodLink RX12 194 yX12_stepsOf, .instanceMethod yX12_stepsOf, .selects RX12 yX12_stepsOf yX12_stepsOf, .code yX12_stepsOf cX12_stepsOf 4 (some .int), .methodLink RX12 172 yX12_alone, .instanceMethod yX12_alone, .selects RX12 yX12_alone yX12_alone, .code yX12_alone cX12_alone 5 (some .int), .fieldLink RX12 16 "ShameYardsModel" "lengthOf" "[I", .fieldLink RX12 22 "ShameYardsModel" "deedsOf" "[I", .fieldLink RX12 19 "ShameYardsModel" "kindOf" "[I"] ++ wsX120)
def wsX12_worstBy : List Cond := .code yX12_worstBy cX12_worstBy 9 (some .int) :: ([.methodLink RX12 225 yX12_isIn, .static yX12_isIn, .initialized RX12, .code yX12_isIn cX12_isIn 2 (some .boolean), .methodLink RX12 279 yX12_stepsWith, .instanceMethod yX12_stepsWith, .selects RX12 yX12_stepsWith yX12_stepsWith, .code yX12_stepsWith cX12_stepsWith 7 (some .int), .fieldLink RX12 25 "ShameYardsModel" "liesOf" "[I", .methodLink RX12 194 yX12_stepsOf, .instanceMethod yX12_stepsOf, .selects RX12 yX12_stepsOf yX12_stepsOf, .code yX12_stepsOf cX12_stepsOf 4 (some .int), .methodLink RX12 172 yX12_alone, .instanceMethod yX12_alone, .selects RX12 yX12_alone yX12_alone, .code yX12_alone cX12_alone 5 (some .int), .fieldLink RX12 16 "ShameYardsModel" "lengthOf" "[I", .fieldLink RX12 22 "ShameYardsModel" "deedsOf" "[I", .fieldLink RX12 19 "ShameYardsModel" "kindOf" "[I"] ++ wsX120)
def wsX12_askOf_r1 : List Cond := [Cond.constant RX12 207 (268435456), Cond.fieldLink RX12 153 "ShameYardsModel" "passages" "I", Cond.fieldLink RX12 156 "ShameYardsModel" "people" "I", Cond.methodLink RX12 175 yX12_liesBits, Cond.instanceMethod yX12_liesBits, Cond.selects RX12 yX12_liesBits yX12_liesBits, Cond.initialized RX12, Cond.code yX12_liesBits cX12_liesBits 6 (some .int), Cond.fieldLink RX12 165 "ShameYardsModel" "seen" "I", Cond.fieldLink RX12 34 "ShameYardsModel" "seenPerson" "[I", Cond.fieldLink RX12 37 "ShameYardsModel" "seenPassage" "[I", Cond.fieldLink RX12 40 "ShameYardsModel" "seenWith" "[I", Cond.fieldLink RX12 43 "ShameYardsModel" "seenSteps" "[I", Cond.methodLink RX12 279 yX12_stepsWith, Cond.instanceMethod yX12_stepsWith, Cond.selects RX12 yX12_stepsWith yX12_stepsWith, Cond.code yX12_stepsWith cX12_stepsWith 7 (some .int), Cond.fieldLink RX12 25 "ShameYardsModel" "liesOf" "[I", Cond.methodLink RX12 194 yX12_stepsOf, Cond.instanceMethod yX12_stepsOf, Cond.selects RX12 yX12_stepsOf yX12_stepsOf, Cond.code yX12_stepsOf cX12_stepsOf 4 (some .int), Cond.methodLink RX12 172 yX12_alone, Cond.instanceMethod yX12_alone]
def wsX12_askOf_r2 : List Cond := [Cond.selects RX12 yX12_alone yX12_alone, Cond.code yX12_alone cX12_alone 5 (some .int), Cond.fieldLink RX12 16 "ShameYardsModel" "lengthOf" "[I", Cond.fieldLink RX12 22 "ShameYardsModel" "deedsOf" "[I", Cond.fieldLink RX12 19 "ShameYardsModel" "kindOf" "[I", Cond.methodLink RX12 282 yX12_worstBy, Cond.instanceMethod yX12_worstBy, Cond.selects RX12 yX12_worstBy yX12_worstBy, Cond.code yX12_worstBy cX12_worstBy 9 (some .int), Cond.methodLink RX12 225 yX12_isIn, Cond.static yX12_isIn, Cond.code yX12_isIn cX12_isIn 2 (some .boolean)]
def wsX12_askOf : List Cond := .code yX12_askOf cX12_askOf 8 (some .int) :: ((wsX12_askOf_r1 ++ wsX12_askOf_r2) ++ wsX120)
def wsX12_personNow_r1 : List Cond := [Cond.fieldLink RX12 19 "ShameYardsModel" "kindOf" "[I", Cond.fieldLink RX12 22 "ShameYardsModel" "deedsOf" "[I", Cond.fieldLink RX12 25 "ShameYardsModel" "liesOf" "[I", Cond.fieldLink RX12 28 "ShameYardsModel" "roomOf" "[I", Cond.fieldLink RX12 31 "ShameYardsModel" "tookOf" "[I", Cond.methodLink RX12 175 yX12_liesBits, Cond.instanceMethod yX12_liesBits, Cond.selects RX12 yX12_liesBits yX12_liesBits, Cond.initialized RX12, Cond.code yX12_liesBits cX12_liesBits 6 (some .int), Cond.fieldLink RX12 165 "ShameYardsModel" "seen" "I", Cond.fieldLink RX12 34 "ShameYardsModel" "seenPerson" "[I", Cond.fieldLink RX12 37 "ShameYardsModel" "seenPassage" "[I", Cond.fieldLink RX12 40 "ShameYardsModel" "seenWith" "[I", Cond.fieldLink RX12 43 "ShameYardsModel" "seenSteps" "[I", Cond.methodLink RX12 279 yX12_stepsWith, Cond.instanceMethod yX12_stepsWith, Cond.selects RX12 yX12_stepsWith yX12_stepsWith, Cond.code yX12_stepsWith cX12_stepsWith 7 (some .int), Cond.methodLink RX12 194 yX12_stepsOf, Cond.instanceMethod yX12_stepsOf, Cond.selects RX12 yX12_stepsOf yX12_stepsOf, Cond.code yX12_stepsOf cX12_stepsOf 4 (some .int), Cond.methodLink RX12 172 yX12_alone]
def wsX12_personNow_r2 : List Cond := [Cond.instanceMethod yX12_alone, Cond.selects RX12 yX12_alone yX12_alone, Cond.code yX12_alone cX12_alone 5 (some .int), Cond.fieldLink RX12 16 "ShameYardsModel" "lengthOf" "[I", Cond.methodLink RX12 178 yX12_askOf, Cond.instanceMethod yX12_askOf, Cond.selects RX12 yX12_askOf yX12_askOf, Cond.code yX12_askOf cX12_askOf 8 (some .int), Cond.constant RX12 207 (268435456), Cond.fieldLink RX12 153 "ShameYardsModel" "passages" "I", Cond.fieldLink RX12 156 "ShameYardsModel" "people" "I", Cond.methodLink RX12 282 yX12_worstBy, Cond.instanceMethod yX12_worstBy, Cond.selects RX12 yX12_worstBy yX12_worstBy, Cond.code yX12_worstBy cX12_worstBy 9 (some .int), Cond.methodLink RX12 225 yX12_isIn, Cond.static yX12_isIn, Cond.code yX12_isIn cX12_isIn 2 (some .boolean)]
def wsX12_personNow : List Cond := .code yX12_personNow cX12_personNow 3 (some .int) :: ((wsX12_personNow_r1 ++ wsX12_personNow_r2) ++ wsX120)
def wsX12_person_r1 : List Cond := [Cond.methodLink RX12 168 yX12_isPerson, Cond.instanceMethod yX12_isPerson, Cond.selects RX12 yX12_isPerson yX12_isPerson, Cond.initialized RX12, Cond.code yX12_isPerson cX12_isPerson 2 (some .boolean), Cond.fieldLink RX12 156 "ShameYardsModel" "people" "I", Cond.methodLink RX12 108 yX12_within, Cond.static yX12_within, Cond.code yX12_within cX12_within 3 (some .boolean), Cond.methodLink RX12 181 yX12_personNow, Cond.instanceMethod yX12_personNow, Cond.selects RX12 yX12_personNow yX12_personNow, Cond.code yX12_personNow cX12_personNow 3 (some .int), Cond.fieldLink RX12 19 "ShameYardsModel" "kindOf" "[I", Cond.fieldLink RX12 22 "ShameYardsModel" "deedsOf" "[I", Cond.fieldLink RX12 25 "ShameYardsModel" "liesOf" "[I", Cond.fieldLink RX12 28 "ShameYardsModel" "roomOf" "[I", Cond.fieldLink RX12 31 "ShameYardsModel" "tookOf" "[I", Cond.methodLink RX12 175 yX12_liesBits, Cond.instanceMethod yX12_liesBits, Cond.selects RX12 yX12_liesBits yX12_liesBits, Cond.code yX12_liesBits cX12_liesBits 6 (some .int), Cond.fieldLink RX12 165 "ShameYardsModel" "seen" "I", Cond.fieldLink RX12 34 "ShameYardsModel" "seenPerson" "[I"]
def wsX12_person_r2 : List Cond := [Cond.fieldLink RX12 37 "ShameYardsModel" "seenPassage" "[I", Cond.fieldLink RX12 40 "ShameYardsModel" "seenWith" "[I", Cond.fieldLink RX12 43 "ShameYardsModel" "seenSteps" "[I", Cond.methodLink RX12 279 yX12_stepsWith, Cond.instanceMethod yX12_stepsWith, Cond.selects RX12 yX12_stepsWith yX12_stepsWith, Cond.code yX12_stepsWith cX12_stepsWith 7 (some .int), Cond.methodLink RX12 194 yX12_stepsOf, Cond.instanceMethod yX12_stepsOf, Cond.selects RX12 yX12_stepsOf yX12_stepsOf, Cond.code yX12_stepsOf cX12_stepsOf 4 (some .int), Cond.methodLink RX12 172 yX12_alone, Cond.instanceMethod yX12_alone, Cond.selects RX12 yX12_alone yX12_alone, Cond.code yX12_alone cX12_alone 5 (some .int), Cond.fieldLink RX12 16 "ShameYardsModel" "lengthOf" "[I", Cond.methodLink RX12 178 yX12_askOf, Cond.instanceMethod yX12_askOf, Cond.selects RX12 yX12_askOf yX12_askOf, Cond.code yX12_askOf cX12_askOf 8 (some .int), Cond.constant RX12 207 (268435456), Cond.fieldLink RX12 153 "ShameYardsModel" "passages" "I", Cond.methodLink RX12 282 yX12_worstBy, Cond.instanceMethod yX12_worstBy]
def wsX12_person_r3 : List Cond := [Cond.selects RX12 yX12_worstBy yX12_worstBy, Cond.code yX12_worstBy cX12_worstBy 9 (some .int), Cond.methodLink RX12 225 yX12_isIn, Cond.static yX12_isIn, Cond.code yX12_isIn cX12_isIn 2 (some .boolean)]
def wsX12_person : List Cond := .code yX12_person cX12_person 3 (some .int) :: ((wsX12_person_r1 ++ (wsX12_person_r2 ++ wsX12_person_r3)) ++ wsX120)
def wsX12_as : List Cond := .code yX12_as cX12_as 4 (some .int) :: ([.fieldLink RX12 19 "ShameYardsModel" "kindOf" "[I", .methodLink RX12 168 yX12_isPerson, .instanceMethod yX12_isPerson, .selects RX12 yX12_isPerson yX12_isPerson, .initialized RX12, .code yX12_isPerson cX12_isPerson 2 (some .boolean), .fieldLink RX12 156 "ShameYardsModel" "people" "I", .methodLink RX12 108 yX12_within, .static yX12_within, .code yX12_within cX12_within 3 (some .boolean)] ++ wsX120)
def wsX12_passageNow : List Cond := .code yX12_passageNow cX12_passageNow 3 (some .int) :: ([.fieldLink RX12 7 "ShameYardsModel" "oneEnd" "[I", .fieldLink RX12 13 "ShameYardsModel" "otherEnd" "[I", .fieldLink RX12 16 "ShameYardsModel" "lengthOf" "[I"] ++ wsX120)
def wsX12_passage : List Cond := .code yX12_passage cX12_passage 3 (some .int) :: ([.methodLink RX12 184 yX12_isPassage, .instanceMethod yX12_isPassage, .selects RX12 yX12_isPassage yX12_isPassage, .initialized RX12, .code yX12_isPassage cX12_isPassage 2 (some .boolean), .fieldLink RX12 153 "ShameYardsModel" "passages" "I", .methodLink RX12 108 yX12_within, .static yX12_within, .code yX12_within cX12_within 3 (some .boolean), .methodLink RX12 187 yX12_passageNow, .instanceMethod yX12_passageNow, .selects RX12 yX12_passageNow yX12_passageNow, .code yX12_passageNow cX12_passageNow 3 (some .int), .fieldLink RX12 7 "ShameYardsModel" "oneEnd" "[I", .fieldLink RX12 13 "ShameYardsModel" "otherEnd" "[I", .fieldLink RX12 16 "ShameYardsModel" "lengthOf" "[I"] ++ wsX120)
def wsX12_steps_r1 : List Cond := [Cond.methodLink RX12 168 yX12_isPerson, Cond.instanceMethod yX12_isPerson, Cond.selects RX12 yX12_isPerson yX12_isPerson, Cond.initialized RX12, Cond.code yX12_isPerson cX12_isPerson 2 (some .boolean), Cond.fieldLink RX12 156 "ShameYardsModel" "people" "I", Cond.methodLink RX12 108 yX12_within, Cond.static yX12_within, Cond.code yX12_within cX12_within 3 (some .boolean), Cond.methodLink RX12 184 yX12_isPassage, Cond.instanceMethod yX12_isPassage, Cond.selects RX12 yX12_isPassage yX12_isPassage, Cond.code yX12_isPassage cX12_isPassage 2 (some .boolean), Cond.fieldLink RX12 153 "ShameYardsModel" "passages" "I", Cond.methodLink RX12 190 yX12_isWith, Cond.instanceMethod yX12_isWith, Cond.selects RX12 yX12_isWith yX12_isWith, Cond.code yX12_isWith cX12_isWith 3 (some .boolean), Cond.methodLink RX12 194 yX12_stepsOf, Cond.instanceMethod yX12_stepsOf, Cond.selects RX12 yX12_stepsOf yX12_stepsOf, Cond.code yX12_stepsOf cX12_stepsOf 4 (some .int), Cond.methodLink RX12 172 yX12_alone, Cond.instanceMethod yX12_alone]
def wsX12_steps_r2 : List Cond := [Cond.selects RX12 yX12_alone yX12_alone, Cond.code yX12_alone cX12_alone 5 (some .int), Cond.fieldLink RX12 16 "ShameYardsModel" "lengthOf" "[I", Cond.fieldLink RX12 22 "ShameYardsModel" "deedsOf" "[I", Cond.fieldLink RX12 25 "ShameYardsModel" "liesOf" "[I", Cond.fieldLink RX12 19 "ShameYardsModel" "kindOf" "[I"]
def wsX12_steps : List Cond := .code yX12_steps cX12_steps 5 (some .int) :: ((wsX12_steps_r1 ++ wsX12_steps_r2) ++ wsX120)
def wsX12_endsAt : List Cond := .code yX12_endsAt cX12_endsAt 3 (some .boolean) :: ([.fieldLink RX12 7 "ShameYardsModel" "oneEnd" "[I", .fieldLink RX12 13 "ShameYardsModel" "otherEnd" "[I"] ++ wsX120)
def wsX12_beyond : List Cond := .code yX12_beyond cX12_beyond 3 (some .int) :: ([.fieldLink RX12 7 "ShameYardsModel" "oneEnd" "[I", .fieldLink RX12 13 "ShameYardsModel" "otherEnd" "[I"] ++ wsX120)
def wsX12_isTired : List Cond := .code yX12_isTired cX12_isTired 2 (some .boolean) :: ([.fieldLink RX12 31 "ShameYardsModel" "tookOf" "[I"] ++ wsX120)
def wsX12_go_r1 : List Cond := [Cond.fieldLink RX12 28 "ShameYardsModel" "roomOf" "[I", Cond.fieldLink RX12 31 "ShameYardsModel" "tookOf" "[I", Cond.fieldLink RX12 159 "ShameYardsModel" "together" "I", Cond.methodLink RX12 168 yX12_isPerson, Cond.instanceMethod yX12_isPerson, Cond.selects RX12 yX12_isPerson yX12_isPerson, Cond.initialized RX12, Cond.code yX12_isPerson cX12_isPerson 2 (some .boolean), Cond.fieldLink RX12 156 "ShameYardsModel" "people" "I", Cond.methodLink RX12 108 yX12_within, Cond.static yX12_within, Cond.code yX12_within cX12_within 3 (some .boolean), Cond.methodLink RX12 184 yX12_isPassage, Cond.instanceMethod yX12_isPassage, Cond.selects RX12 yX12_isPassage yX12_isPassage, Cond.code yX12_isPassage cX12_isPassage 2 (some .boolean), Cond.fieldLink RX12 153 "ShameYardsModel" "passages" "I", Cond.methodLink RX12 190 yX12_isWith, Cond.instanceMethod yX12_isWith, Cond.selects RX12 yX12_isWith yX12_isWith, Cond.code yX12_isWith cX12_isWith 3 (some .boolean), Cond.methodLink RX12 198 yX12_endsAt, Cond.instanceMethod yX12_endsAt, Cond.selects RX12 yX12_endsAt yX12_endsAt]
def wsX12_go_r2 : List Cond := [Cond.code yX12_endsAt cX12_endsAt 3 (some .boolean), Cond.fieldLink RX12 7 "ShameYardsModel" "oneEnd" "[I", Cond.fieldLink RX12 13 "ShameYardsModel" "otherEnd" "[I", Cond.methodLink RX12 201 yX12_isTired, Cond.instanceMethod yX12_isTired, Cond.selects RX12 yX12_isTired yX12_isTired, Cond.code yX12_isTired cX12_isTired 2 (some .boolean), Cond.methodLink RX12 194 yX12_stepsOf, Cond.instanceMethod yX12_stepsOf, Cond.selects RX12 yX12_stepsOf yX12_stepsOf, Cond.code yX12_stepsOf cX12_stepsOf 4 (some .int), Cond.methodLink RX12 172 yX12_alone, Cond.instanceMethod yX12_alone, Cond.selects RX12 yX12_alone yX12_alone, Cond.code yX12_alone cX12_alone 5 (some .int), Cond.fieldLink RX12 16 "ShameYardsModel" "lengthOf" "[I", Cond.fieldLink RX12 22 "ShameYardsModel" "deedsOf" "[I", Cond.fieldLink RX12 25 "ShameYardsModel" "liesOf" "[I", Cond.fieldLink RX12 19 "ShameYardsModel" "kindOf" "[I", Cond.methodLink RX12 204 yX12_beyond, Cond.instanceMethod yX12_beyond, Cond.selects RX12 yX12_beyond yX12_beyond, Cond.code yX12_beyond cX12_beyond 3 (some .int)]
def wsX12_go : List Cond := .code yX12_go cX12_go 6 (some .int) :: ((wsX12_go_r1 ++ wsX12_go_r2) ++ wsX120)
def wsX12_sin : List Cond := .code yX12_sin cX12_sin 2 (some .int) :: ([.fieldLink RX12 22 "ShameYardsModel" "deedsOf" "[I", .methodLink RX12 168 yX12_isPerson, .instanceMethod yX12_isPerson, .selects RX12 yX12_isPerson yX12_isPerson, .initialized RX12, .code yX12_isPerson cX12_isPerson 2 (some .boolean), .fieldLink RX12 156 "ShameYardsModel" "people" "I", .methodLink RX12 108 yX12_within, .static yX12_within, .code yX12_within cX12_within 3 (some .boolean)] ++ wsX120)
def wsX12_lie : List Cond := .code yX12_lie cX12_lie 2 (some .int) :: ([.fieldLink RX12 25 "ShameYardsModel" "liesOf" "[I", .methodLink RX12 168 yX12_isPerson, .instanceMethod yX12_isPerson, .selects RX12 yX12_isPerson yX12_isPerson, .initialized RX12, .code yX12_isPerson cX12_isPerson 2 (some .boolean), .fieldLink RX12 156 "ShameYardsModel" "people" "I", .methodLink RX12 108 yX12_within, .static yX12_within, .code yX12_within cX12_within 3 (some .boolean)] ++ wsX120)
def wsX12_confess : List Cond := .code yX12_confess cX12_confess 2 (some .int) :: ([.fieldLink RX12 22 "ShameYardsModel" "deedsOf" "[I", .methodLink RX12 168 yX12_isPerson, .instanceMethod yX12_isPerson, .selects RX12 yX12_isPerson yX12_isPerson, .initialized RX12, .code yX12_isPerson cX12_isPerson 2 (some .boolean), .fieldLink RX12 156 "ShameYardsModel" "people" "I", .methodLink RX12 108 yX12_within, .static yX12_within, .code yX12_within cX12_within 3 (some .boolean)] ++ wsX120)
def wsX12_carpet : List Cond := .code yX12_carpet cX12_carpet 4 (some .int) :: ([.fieldLink RX12 16 "ShameYardsModel" "lengthOf" "[I", .methodLink RX12 184 yX12_isPassage, .instanceMethod yX12_isPassage, .selects RX12 yX12_isPassage yX12_isPassage, .initialized RX12, .code yX12_isPassage cX12_isPassage 2 (some .boolean), .fieldLink RX12 153 "ShameYardsModel" "passages" "I", .methodLink RX12 108 yX12_within, .static yX12_within, .code yX12_within cX12_within 3 (some .boolean)] ++ wsX120)
def wsX12_layFar : List Cond := .code yX12_layFar cX12_layFar 8 none :: ([.fieldLink RX12 150 "ShameYardsModel" "rooms" "I", .fieldLink RX12 50 "ShameYardsModel" "farTo" "[I", .constant RX12 207 (268435456), .fieldLink RX12 153 "ShameYardsModel" "passages" "I", .fieldLink RX12 7 "ShameYardsModel" "oneEnd" "[I", .fieldLink RX12 13 "ShameYardsModel" "otherEnd" "[I", .methodLink RX12 172 yX12_alone, .instanceMethod yX12_alone, .selects RX12 yX12_alone yX12_alone, .initialized RX12, .code yX12_alone cX12_alone 5 (some .int), .fieldLink RX12 16 "ShameYardsModel" "lengthOf" "[I", .fieldLink RX12 22 "ShameYardsModel" "deedsOf" "[I", .fieldLink RX12 25 "ShameYardsModel" "liesOf" "[I", .fieldLink RX12 19 "ShameYardsModel" "kindOf" "[I"] ++ wsX120)
def wsX12_farFrom : List Cond := .code yX12_farFrom cX12_farFrom 4 (some .int) :: ([.fieldLink RX12 50 "ShameYardsModel" "farTo" "[I", .constant RX12 207 (268435456), .methodLink RX12 208 yX12_layFar, .instanceMethod yX12_layFar, .selects RX12 yX12_layFar yX12_layFar, .initialized RX12, .code yX12_layFar cX12_layFar 8 none, .fieldLink RX12 150 "ShameYardsModel" "rooms" "I", .fieldLink RX12 153 "ShameYardsModel" "passages" "I", .fieldLink RX12 7 "ShameYardsModel" "oneEnd" "[I", .fieldLink RX12 13 "ShameYardsModel" "otherEnd" "[I", .methodLink RX12 172 yX12_alone, .instanceMethod yX12_alone, .selects RX12 yX12_alone yX12_alone, .code yX12_alone cX12_alone 5 (some .int), .fieldLink RX12 16 "ShameYardsModel" "lengthOf" "[I", .fieldLink RX12 22 "ShameYardsModel" "deedsOf" "[I", .fieldLink RX12 25 "ShameYardsModel" "liesOf" "[I", .fieldLink RX12 19 "ShameYardsModel" "kindOf" "[I"] ++ wsX120)
def wsX12_nextPassage : List Cond := .code yX12_nextPassage cX12_nextPassage 4 (some .int) :: ([.fieldLink RX12 50 "ShameYardsModel" "farTo" "[I", .methodLink RX12 198 yX12_endsAt, .instanceMethod yX12_endsAt, .selects RX12 yX12_endsAt yX12_endsAt, .initialized RX12, .code yX12_endsAt cX12_endsAt 3 (some .boolean), .fieldLink RX12 7 "ShameYardsModel" "oneEnd" "[I", .fieldLink RX12 13 "ShameYardsModel" "otherEnd" "[I", .methodLink RX12 204 yX12_beyond, .instanceMethod yX12_beyond, .selects RX12 yX12_beyond yX12_beyond, .code yX12_beyond cX12_beyond 3 (some .int), .methodLink RX12 172 yX12_alone, .instanceMethod yX12_alone, .selects RX12 yX12_alone yX12_alone, .code yX12_alone cX12_alone 5 (some .int), .fieldLink RX12 16 "ShameYardsModel" "lengthOf" "[I", .fieldLink RX12 22 "ShameYardsModel" "deedsOf" "[I", .fieldLink RX12 25 "ShameYardsModel" "liesOf" "[I", .fieldLink RX12 19 "ShameYardsModel" "kindOf" "[I"] ++ wsX120)
def wsX12_farNow_r1 : List Cond := [Cond.methodLink RX12 212 yX12_farFrom, Cond.instanceMethod yX12_farFrom, Cond.selects RX12 yX12_farFrom yX12_farFrom, Cond.initialized RX12, Cond.code yX12_farFrom cX12_farFrom 4 (some .int), Cond.fieldLink RX12 50 "ShameYardsModel" "farTo" "[I", Cond.constant RX12 207 (268435456), Cond.methodLink RX12 208 yX12_layFar, Cond.instanceMethod yX12_layFar, Cond.selects RX12 yX12_layFar yX12_layFar, Cond.code yX12_layFar cX12_layFar 8 none, Cond.fieldLink RX12 150 "ShameYardsModel" "rooms" "I", Cond.fieldLink RX12 153 "ShameYardsModel" "passages" "I", Cond.fieldLink RX12 7 "ShameYardsModel" "oneEnd" "[I", Cond.fieldLink RX12 13 "ShameYardsModel" "otherEnd" "[I", Cond.methodLink RX12 172 yX12_alone, Cond.instanceMethod yX12_alone, Cond.selects RX12 yX12_alone yX12_alone, Cond.code yX12_alone cX12_alone 5 (some .int), Cond.fieldLink RX12 16 "ShameYardsModel" "lengthOf" "[I", Cond.fieldLink RX12 22 "ShameYardsModel" "deedsOf" "[I", Cond.fieldLink RX12 25 "ShameYardsModel" "liesOf" "[I", Cond.fieldLink RX12 19 "ShameYardsModel" "kindOf" "[I", Cond.methodLink RX12 215 yX12_nextPassage]
def wsX12_farNow_r2 : List Cond := [Cond.instanceMethod yX12_nextPassage, Cond.selects RX12 yX12_nextPassage yX12_nextPassage, Cond.code yX12_nextPassage cX12_nextPassage 4 (some .int), Cond.methodLink RX12 198 yX12_endsAt, Cond.instanceMethod yX12_endsAt, Cond.selects RX12 yX12_endsAt yX12_endsAt, Cond.code yX12_endsAt cX12_endsAt 3 (some .boolean), Cond.methodLink RX12 204 yX12_beyond, Cond.instanceMethod yX12_beyond, Cond.selects RX12 yX12_beyond yX12_beyond, Cond.code yX12_beyond cX12_beyond 3 (some .int)]
def wsX12_farNow : List Cond := .code yX12_farNow cX12_farNow 9 (some .int) :: ((wsX12_farNow_r1 ++ wsX12_farNow_r2) ++ wsX120)
def wsX12_far_r1 : List Cond := [Cond.methodLink RX12 168 yX12_isPerson, Cond.instanceMethod yX12_isPerson, Cond.selects RX12 yX12_isPerson yX12_isPerson, Cond.initialized RX12, Cond.code yX12_isPerson cX12_isPerson 2 (some .boolean), Cond.fieldLink RX12 156 "ShameYardsModel" "people" "I", Cond.methodLink RX12 108 yX12_within, Cond.static yX12_within, Cond.code yX12_within cX12_within 3 (some .boolean), Cond.methodLink RX12 218 yX12_isRoom, Cond.instanceMethod yX12_isRoom, Cond.selects RX12 yX12_isRoom yX12_isRoom, Cond.code yX12_isRoom cX12_isRoom 2 (some .boolean), Cond.fieldLink RX12 150 "ShameYardsModel" "rooms" "I", Cond.methodLink RX12 221 yX12_farNow, Cond.instanceMethod yX12_farNow, Cond.selects RX12 yX12_farNow yX12_farNow, Cond.code yX12_farNow cX12_farNow 9 (some .int), Cond.methodLink RX12 212 yX12_farFrom, Cond.instanceMethod yX12_farFrom, Cond.selects RX12 yX12_farFrom yX12_farFrom, Cond.code yX12_farFrom cX12_farFrom 4 (some .int), Cond.fieldLink RX12 50 "ShameYardsModel" "farTo" "[I", Cond.constant RX12 207 (268435456)]
def wsX12_far_r2 : List Cond := [Cond.methodLink RX12 208 yX12_layFar, Cond.instanceMethod yX12_layFar, Cond.selects RX12 yX12_layFar yX12_layFar, Cond.code yX12_layFar cX12_layFar 8 none, Cond.fieldLink RX12 153 "ShameYardsModel" "passages" "I", Cond.fieldLink RX12 7 "ShameYardsModel" "oneEnd" "[I", Cond.fieldLink RX12 13 "ShameYardsModel" "otherEnd" "[I", Cond.methodLink RX12 172 yX12_alone, Cond.instanceMethod yX12_alone, Cond.selects RX12 yX12_alone yX12_alone, Cond.code yX12_alone cX12_alone 5 (some .int), Cond.fieldLink RX12 16 "ShameYardsModel" "lengthOf" "[I", Cond.fieldLink RX12 22 "ShameYardsModel" "deedsOf" "[I", Cond.fieldLink RX12 25 "ShameYardsModel" "liesOf" "[I", Cond.fieldLink RX12 19 "ShameYardsModel" "kindOf" "[I", Cond.methodLink RX12 215 yX12_nextPassage, Cond.instanceMethod yX12_nextPassage, Cond.selects RX12 yX12_nextPassage yX12_nextPassage, Cond.code yX12_nextPassage cX12_nextPassage 4 (some .int), Cond.methodLink RX12 198 yX12_endsAt, Cond.instanceMethod yX12_endsAt, Cond.selects RX12 yX12_endsAt yX12_endsAt, Cond.code yX12_endsAt cX12_endsAt 3 (some .boolean), Cond.methodLink RX12 204 yX12_beyond]
def wsX12_far_r3 : List Cond := [Cond.instanceMethod yX12_beyond, Cond.selects RX12 yX12_beyond yX12_beyond, Cond.code yX12_beyond cX12_beyond 3 (some .int)]
def wsX12_far : List Cond := .code yX12_far cX12_far 5 (some .int) :: ((wsX12_far_r1 ++ (wsX12_far_r2 ++ wsX12_far_r3)) ++ wsX120)
def wsX12_sentSteps : List Cond := .code yX12_sentSteps cX12_sentSteps 5 (some .int) :: ([.fieldLink RX12 150 "ShameYardsModel" "rooms" "I", .fieldLink RX12 59 "ShameYardsModel" "farBy" "[I", .fieldLink RX12 53 "ShameYardsModel" "sent" "[I", .constant RX12 207 (268435456), .methodLink RX12 225 yX12_isIn, .static yX12_isIn, .initialized RX12, .code yX12_isIn cX12_isIn 2 (some .boolean)] ++ wsX120)
def wsX12_nextSent : List Cond := .code yX12_nextSent cX12_nextSent 2 (some .boolean) :: ([.fieldLink RX12 150 "ShameYardsModel" "rooms" "I", .fieldLink RX12 53 "ShameYardsModel" "sent" "[I", .fieldLink RX12 156 "ShameYardsModel" "people" "I"] ++ wsX120)
def wsX12_sendNow_r1 : List Cond := [Cond.fieldLink RX12 156 "ShameYardsModel" "people" "I", Cond.fieldLink RX12 150 "ShameYardsModel" "rooms" "I", Cond.fieldLink RX12 59 "ShameYardsModel" "farBy" "[I", Cond.fieldLink RX12 28 "ShameYardsModel" "roomOf" "[I", Cond.fieldLink RX12 53 "ShameYardsModel" "sent" "[I", Cond.fieldLink RX12 56 "ShameYardsModel" "bestSent" "[I", Cond.constant RX12 207 (268435456), Cond.methodLink RX12 212 yX12_farFrom, Cond.instanceMethod yX12_farFrom, Cond.selects RX12 yX12_farFrom yX12_farFrom, Cond.initialized RX12, Cond.code yX12_farFrom cX12_farFrom 4 (some .int), Cond.fieldLink RX12 50 "ShameYardsModel" "farTo" "[I", Cond.methodLink RX12 208 yX12_layFar, Cond.instanceMethod yX12_layFar, Cond.selects RX12 yX12_layFar yX12_layFar, Cond.code yX12_layFar cX12_layFar 8 none, Cond.fieldLink RX12 153 "ShameYardsModel" "passages" "I", Cond.fieldLink RX12 7 "ShameYardsModel" "oneEnd" "[I", Cond.fieldLink RX12 13 "ShameYardsModel" "otherEnd" "[I", Cond.methodLink RX12 172 yX12_alone, Cond.instanceMethod yX12_alone, Cond.selects RX12 yX12_alone yX12_alone, Cond.code yX12_alone cX12_alone 5 (some .int)]
def wsX12_sendNow_r2 : List Cond := [Cond.fieldLink RX12 16 "ShameYardsModel" "lengthOf" "[I", Cond.fieldLink RX12 22 "ShameYardsModel" "deedsOf" "[I", Cond.fieldLink RX12 25 "ShameYardsModel" "liesOf" "[I", Cond.fieldLink RX12 19 "ShameYardsModel" "kindOf" "[I", Cond.methodLink RX12 228 yX12_sentSteps, Cond.instanceMethod yX12_sentSteps, Cond.selects RX12 yX12_sentSteps yX12_sentSteps, Cond.code yX12_sentSteps cX12_sentSteps 5 (some .int), Cond.methodLink RX12 225 yX12_isIn, Cond.static yX12_isIn, Cond.code yX12_isIn cX12_isIn 2 (some .boolean), Cond.methodLink RX12 231 yX12_nextSent, Cond.instanceMethod yX12_nextSent, Cond.selects RX12 yX12_nextSent yX12_nextSent, Cond.code yX12_nextSent cX12_nextSent 2 (some .boolean)]
def wsX12_sendNow : List Cond := .code yX12_sendNow cX12_sendNow 6 (some .int) :: ((wsX12_sendNow_r1 ++ wsX12_sendNow_r2) ++ wsX120)
def wsX12_send_r1 : List Cond := [Cond.fieldLink RX12 156 "ShameYardsModel" "people" "I", Cond.fieldLink RX12 235 "ShameYardsModel" "asks" "I", Cond.methodLink RX12 108 yX12_within, Cond.static yX12_within, Cond.initialized RX12, Cond.code yX12_within cX12_within 3 (some .boolean), Cond.methodLink RX12 238 yX12_sendNow, Cond.instanceMethod yX12_sendNow, Cond.selects RX12 yX12_sendNow yX12_sendNow, Cond.code yX12_sendNow cX12_sendNow 6 (some .int), Cond.fieldLink RX12 150 "ShameYardsModel" "rooms" "I", Cond.fieldLink RX12 59 "ShameYardsModel" "farBy" "[I", Cond.fieldLink RX12 28 "ShameYardsModel" "roomOf" "[I", Cond.fieldLink RX12 53 "ShameYardsModel" "sent" "[I", Cond.fieldLink RX12 56 "ShameYardsModel" "bestSent" "[I", Cond.constant RX12 207 (268435456), Cond.methodLink RX12 212 yX12_farFrom, Cond.instanceMethod yX12_farFrom, Cond.selects RX12 yX12_farFrom yX12_farFrom, Cond.code yX12_farFrom cX12_farFrom 4 (some .int), Cond.fieldLink RX12 50 "ShameYardsModel" "farTo" "[I", Cond.methodLink RX12 208 yX12_layFar, Cond.instanceMethod yX12_layFar, Cond.selects RX12 yX12_layFar yX12_layFar]
def wsX12_send_r2 : List Cond := [Cond.code yX12_layFar cX12_layFar 8 none, Cond.fieldLink RX12 153 "ShameYardsModel" "passages" "I", Cond.fieldLink RX12 7 "ShameYardsModel" "oneEnd" "[I", Cond.fieldLink RX12 13 "ShameYardsModel" "otherEnd" "[I", Cond.methodLink RX12 172 yX12_alone, Cond.instanceMethod yX12_alone, Cond.selects RX12 yX12_alone yX12_alone, Cond.code yX12_alone cX12_alone 5 (some .int), Cond.fieldLink RX12 16 "ShameYardsModel" "lengthOf" "[I", Cond.fieldLink RX12 22 "ShameYardsModel" "deedsOf" "[I", Cond.fieldLink RX12 25 "ShameYardsModel" "liesOf" "[I", Cond.fieldLink RX12 19 "ShameYardsModel" "kindOf" "[I", Cond.methodLink RX12 228 yX12_sentSteps, Cond.instanceMethod yX12_sentSteps, Cond.selects RX12 yX12_sentSteps yX12_sentSteps, Cond.code yX12_sentSteps cX12_sentSteps 5 (some .int), Cond.methodLink RX12 225 yX12_isIn, Cond.static yX12_isIn, Cond.code yX12_isIn cX12_isIn 2 (some .boolean), Cond.methodLink RX12 231 yX12_nextSent, Cond.instanceMethod yX12_nextSent, Cond.selects RX12 yX12_nextSent yX12_nextSent, Cond.code yX12_nextSent cX12_nextSent 2 (some .boolean)]
def wsX12_send : List Cond := .code yX12_send cX12_send 2 (some .int) :: ((wsX12_send_r1 ++ wsX12_send_r2) ++ wsX120)
def wsX12_arePairs : List Cond := .code yX12_arePairs cX12_arePairs 4 (some .boolean) :: ([.fieldLink RX12 156 "ShameYardsModel" "people" "I", .fieldLink RX12 62 "ShameYardsModel" "mate" "[I"] ++ wsX120)
def wsX12_nextMates : List Cond := .code yX12_nextMates cX12_nextMates 2 (some .boolean) :: ([.fieldLink RX12 156 "ShameYardsModel" "people" "I", .fieldLink RX12 62 "ShameYardsModel" "mate" "[I"] ++ wsX120)
def wsX12_mostSteps : List Cond := .code yX12_mostSteps cX12_mostSteps 5 (some .int) :: ([.fieldLink RX12 156 "ShameYardsModel" "people" "I", .fieldLink RX12 62 "ShameYardsModel" "mate" "[I", .methodLink RX12 194 yX12_stepsOf, .instanceMethod yX12_stepsOf, .selects RX12 yX12_stepsOf yX12_stepsOf, .initialized RX12, .code yX12_stepsOf cX12_stepsOf 4 (some .int), .methodLink RX12 172 yX12_alone, .instanceMethod yX12_alone, .selects RX12 yX12_alone yX12_alone, .code yX12_alone cX12_alone 5 (some .int), .fieldLink RX12 16 "ShameYardsModel" "lengthOf" "[I", .fieldLink RX12 22 "ShameYardsModel" "deedsOf" "[I", .fieldLink RX12 25 "ShameYardsModel" "liesOf" "[I", .fieldLink RX12 19 "ShameYardsModel" "kindOf" "[I"] ++ wsX120)
def wsX12_goTogether : List Cond := .code yX12_goTogether cX12_goTogether 3 (some .int) :: ([.fieldLink RX12 156 "ShameYardsModel" "people" "I", .fieldLink RX12 62 "ShameYardsModel" "mate" "[I"] ++ wsX120)
def wsX12_pairsNow_r1 : List Cond := [Cond.fieldLink RX12 62 "ShameYardsModel" "mate" "[I", Cond.fieldLink RX12 65 "ShameYardsModel" "bestMate" "[I", Cond.constant RX12 207 (268435456), Cond.fieldLink RX12 156 "ShameYardsModel" "people" "I", Cond.methodLink RX12 241 yX12_arePairs, Cond.instanceMethod yX12_arePairs, Cond.selects RX12 yX12_arePairs yX12_arePairs, Cond.initialized RX12, Cond.code yX12_arePairs cX12_arePairs 4 (some .boolean), Cond.methodLink RX12 244 yX12_mostSteps, Cond.instanceMethod yX12_mostSteps, Cond.selects RX12 yX12_mostSteps yX12_mostSteps, Cond.code yX12_mostSteps cX12_mostSteps 5 (some .int), Cond.methodLink RX12 194 yX12_stepsOf, Cond.instanceMethod yX12_stepsOf, Cond.selects RX12 yX12_stepsOf yX12_stepsOf, Cond.code yX12_stepsOf cX12_stepsOf 4 (some .int), Cond.methodLink RX12 172 yX12_alone, Cond.instanceMethod yX12_alone, Cond.selects RX12 yX12_alone yX12_alone, Cond.code yX12_alone cX12_alone 5 (some .int), Cond.fieldLink RX12 16 "ShameYardsModel" "lengthOf" "[I", Cond.fieldLink RX12 22 "ShameYardsModel" "deedsOf" "[I", Cond.fieldLink RX12 25 "ShameYardsModel" "liesOf" "[I"]
def wsX12_pairsNow_r2 : List Cond := [Cond.fieldLink RX12 19 "ShameYardsModel" "kindOf" "[I", Cond.methodLink RX12 247 yX12_goTogether, Cond.instanceMethod yX12_goTogether, Cond.selects RX12 yX12_goTogether yX12_goTogether, Cond.code yX12_goTogether cX12_goTogether 3 (some .int), Cond.methodLink RX12 250 yX12_nextMates, Cond.instanceMethod yX12_nextMates, Cond.selects RX12 yX12_nextMates yX12_nextMates, Cond.code yX12_nextMates cX12_nextMates 2 (some .boolean)]
def wsX12_pairsNow : List Cond := .code yX12_pairsNow cX12_pairsNow 9 (some .int) :: ((wsX12_pairsNow_r1 ++ wsX12_pairsNow_r2) ++ wsX120)
def wsX12_pairs_r1 : List Cond := [Cond.methodLink RX12 184 yX12_isPassage, Cond.instanceMethod yX12_isPassage, Cond.selects RX12 yX12_isPassage yX12_isPassage, Cond.initialized RX12, Cond.code yX12_isPassage cX12_isPassage 2 (some .boolean), Cond.fieldLink RX12 153 "ShameYardsModel" "passages" "I", Cond.methodLink RX12 108 yX12_within, Cond.static yX12_within, Cond.code yX12_within cX12_within 3 (some .boolean), Cond.methodLink RX12 253 yX12_pairsNow, Cond.instanceMethod yX12_pairsNow, Cond.selects RX12 yX12_pairsNow yX12_pairsNow, Cond.code yX12_pairsNow cX12_pairsNow 9 (some .int), Cond.fieldLink RX12 62 "ShameYardsModel" "mate" "[I", Cond.fieldLink RX12 65 "ShameYardsModel" "bestMate" "[I", Cond.constant RX12 207 (268435456), Cond.fieldLink RX12 156 "ShameYardsModel" "people" "I", Cond.methodLink RX12 241 yX12_arePairs, Cond.instanceMethod yX12_arePairs, Cond.selects RX12 yX12_arePairs yX12_arePairs, Cond.code yX12_arePairs cX12_arePairs 4 (some .boolean), Cond.methodLink RX12 244 yX12_mostSteps, Cond.instanceMethod yX12_mostSteps, Cond.selects RX12 yX12_mostSteps yX12_mostSteps]
def wsX12_pairs_r2 : List Cond := [Cond.code yX12_mostSteps cX12_mostSteps 5 (some .int), Cond.methodLink RX12 194 yX12_stepsOf, Cond.instanceMethod yX12_stepsOf, Cond.selects RX12 yX12_stepsOf yX12_stepsOf, Cond.code yX12_stepsOf cX12_stepsOf 4 (some .int), Cond.methodLink RX12 172 yX12_alone, Cond.instanceMethod yX12_alone, Cond.selects RX12 yX12_alone yX12_alone, Cond.code yX12_alone cX12_alone 5 (some .int), Cond.fieldLink RX12 16 "ShameYardsModel" "lengthOf" "[I", Cond.fieldLink RX12 22 "ShameYardsModel" "deedsOf" "[I", Cond.fieldLink RX12 25 "ShameYardsModel" "liesOf" "[I", Cond.fieldLink RX12 19 "ShameYardsModel" "kindOf" "[I", Cond.methodLink RX12 247 yX12_goTogether, Cond.instanceMethod yX12_goTogether, Cond.selects RX12 yX12_goTogether yX12_goTogether, Cond.code yX12_goTogether cX12_goTogether 3 (some .int), Cond.methodLink RX12 250 yX12_nextMates, Cond.instanceMethod yX12_nextMates, Cond.selects RX12 yX12_nextMates yX12_nextMates, Cond.code yX12_nextMates cX12_nextMates 2 (some .boolean)]
def wsX12_pairs : List Cond := .code yX12_pairs cX12_pairs 3 (some .int) :: ((wsX12_pairs_r1 ++ wsX12_pairs_r2) ++ wsX120)
def wsX12_ending : List Cond := .code yX12_ending cX12_ending 4 (some .int) :: ([.fieldLink RX12 153 "ShameYardsModel" "passages" "I", .methodLink RX12 198 yX12_endsAt, .instanceMethod yX12_endsAt, .selects RX12 yX12_endsAt yX12_endsAt, .initialized RX12, .code yX12_endsAt cX12_endsAt 3 (some .boolean), .fieldLink RX12 7 "ShameYardsModel" "oneEnd" "[I", .fieldLink RX12 13 "ShameYardsModel" "otherEnd" "[I"] ++ wsX120)
def wsX12_turn : List Cond := .code yX12_turn cX12_turn 5 none :: ([.fieldLink RX12 150 "ShameYardsModel" "rooms" "I", .fieldLink RX12 72 "ShameYardsModel" "next" "[J", .fieldLink RX12 68 "ShameYardsModel" "likely" "[J", .constantLong RX12 259 (420), .fieldLink RX12 153 "ShameYardsModel" "passages" "I", .methodLink RX12 256 yX12_ending, .instanceMethod yX12_ending, .selects RX12 yX12_ending yX12_ending, .initialized RX12, .code yX12_ending cX12_ending 4 (some .int), .methodLink RX12 198 yX12_endsAt, .instanceMethod yX12_endsAt, .selects RX12 yX12_endsAt yX12_endsAt, .code yX12_endsAt cX12_endsAt 3 (some .boolean), .fieldLink RX12 7 "ShameYardsModel" "oneEnd" "[I", .fieldLink RX12 13 "ShameYardsModel" "otherEnd" "[I", .methodLink RX12 204 yX12_beyond, .instanceMethod yX12_beyond, .selects RX12 yX12_beyond yX12_beyond, .code yX12_beyond cX12_beyond 3 (some .int)] ++ wsX120)
def wsX12_meetNow_r1 : List Cond := [Cond.fieldLink RX12 68 "ShameYardsModel" "likely" "[J", Cond.fieldLink RX12 28 "ShameYardsModel" "roomOf" "[I", Cond.constantLong RX12 265 (176400), Cond.fieldLink RX12 150 "ShameYardsModel" "rooms" "I", Cond.methodLink RX12 261 yX12_turn, Cond.instanceMethod yX12_turn, Cond.selects RX12 yX12_turn yX12_turn, Cond.initialized RX12, Cond.code yX12_turn cX12_turn 5 none, Cond.fieldLink RX12 72 "ShameYardsModel" "next" "[J", Cond.constantLong RX12 259 (420), Cond.fieldLink RX12 153 "ShameYardsModel" "passages" "I", Cond.methodLink RX12 256 yX12_ending, Cond.instanceMethod yX12_ending, Cond.selects RX12 yX12_ending yX12_ending, Cond.code yX12_ending cX12_ending 4 (some .int), Cond.methodLink RX12 198 yX12_endsAt, Cond.instanceMethod yX12_endsAt, Cond.selects RX12 yX12_endsAt yX12_endsAt, Cond.code yX12_endsAt cX12_endsAt 3 (some .boolean), Cond.fieldLink RX12 7 "ShameYardsModel" "oneEnd" "[I", Cond.fieldLink RX12 13 "ShameYardsModel" "otherEnd" "[I", Cond.methodLink RX12 204 yX12_beyond, Cond.instanceMethod yX12_beyond]
def wsX12_meetNow_r2 : List Cond := [Cond.selects RX12 yX12_beyond yX12_beyond, Cond.code yX12_beyond cX12_beyond 3 (some .int), Cond.methodLink RX12 267 yX12_divisor, Cond.static yX12_divisor, Cond.code yX12_divisor cX12_divisor 10 (some .long)]
def wsX12_meetNow : List Cond := .code yX12_meetNow cX12_meetNow 11 (some .long) :: ((wsX12_meetNow_r1 ++ wsX12_meetNow_r2) ++ wsX120)
def wsX12_meet_r1 : List Cond := [Cond.constantLong RX12 271 (-101), Cond.constantLong RX12 277 (-102), Cond.methodLink RX12 168 yX12_isPerson, Cond.instanceMethod yX12_isPerson, Cond.selects RX12 yX12_isPerson yX12_isPerson, Cond.initialized RX12, Cond.code yX12_isPerson cX12_isPerson 2 (some .boolean), Cond.fieldLink RX12 156 "ShameYardsModel" "people" "I", Cond.methodLink RX12 108 yX12_within, Cond.static yX12_within, Cond.code yX12_within cX12_within 3 (some .boolean), Cond.methodLink RX12 273 yX12_meetNow, Cond.instanceMethod yX12_meetNow, Cond.selects RX12 yX12_meetNow yX12_meetNow, Cond.code yX12_meetNow cX12_meetNow 11 (some .long), Cond.fieldLink RX12 68 "ShameYardsModel" "likely" "[J", Cond.fieldLink RX12 28 "ShameYardsModel" "roomOf" "[I", Cond.constantLong RX12 265 (176400), Cond.fieldLink RX12 150 "ShameYardsModel" "rooms" "I", Cond.methodLink RX12 261 yX12_turn, Cond.instanceMethod yX12_turn, Cond.selects RX12 yX12_turn yX12_turn, Cond.code yX12_turn cX12_turn 5 none, Cond.fieldLink RX12 72 "ShameYardsModel" "next" "[J"]
def wsX12_meet_r2 : List Cond := [Cond.constantLong RX12 259 (420), Cond.fieldLink RX12 153 "ShameYardsModel" "passages" "I", Cond.methodLink RX12 256 yX12_ending, Cond.instanceMethod yX12_ending, Cond.selects RX12 yX12_ending yX12_ending, Cond.code yX12_ending cX12_ending 4 (some .int), Cond.methodLink RX12 198 yX12_endsAt, Cond.instanceMethod yX12_endsAt, Cond.selects RX12 yX12_endsAt yX12_endsAt, Cond.code yX12_endsAt cX12_endsAt 3 (some .boolean), Cond.fieldLink RX12 7 "ShameYardsModel" "oneEnd" "[I", Cond.fieldLink RX12 13 "ShameYardsModel" "otherEnd" "[I", Cond.methodLink RX12 204 yX12_beyond, Cond.instanceMethod yX12_beyond, Cond.selects RX12 yX12_beyond yX12_beyond, Cond.code yX12_beyond cX12_beyond 3 (some .int), Cond.methodLink RX12 267 yX12_divisor, Cond.static yX12_divisor, Cond.code yX12_divisor cX12_divisor 10 (some .long)]
def wsX12_meet : List Cond := .code yX12_meet cX12_meet 5 (some .long) :: ((wsX12_meet_r1 ++ wsX12_meet_r2) ++ wsX120)
def wsX12_see : List Cond := .code yX12_see cX12_see 5 (some .int) :: ([.fieldLink RX12 165 "ShameYardsModel" "seen" "I", .fieldLink RX12 34 "ShameYardsModel" "seenPerson" "[I", .fieldLink RX12 37 "ShameYardsModel" "seenPassage" "[I", .fieldLink RX12 40 "ShameYardsModel" "seenWith" "[I", .fieldLink RX12 43 "ShameYardsModel" "seenSteps" "[I", .methodLink RX12 168 yX12_isPerson, .instanceMethod yX12_isPerson, .selects RX12 yX12_isPerson yX12_isPerson, .initialized RX12, .code yX12_isPerson cX12_isPerson 2 (some .boolean), .fieldLink RX12 156 "ShameYardsModel" "people" "I", .methodLink RX12 108 yX12_within, .static yX12_within, .code yX12_within cX12_within 3 (some .boolean), .methodLink RX12 184 yX12_isPassage, .instanceMethod yX12_isPassage, .selects RX12 yX12_isPassage yX12_isPassage, .code yX12_isPassage cX12_isPassage 2 (some .boolean), .fieldLink RX12 153 "ShameYardsModel" "passages" "I", .methodLink RX12 190 yX12_isWith, .instanceMethod yX12_isWith, .selects RX12 yX12_isWith yX12_isWith, .code yX12_isWith cX12_isWith 3 (some .boolean)] ++ wsX120)
def wsX12_forget : List Cond := .code yX12_forget cX12_forget 2 (some .int) :: ([.fieldLink RX12 165 "ShameYardsModel" "seen" "I"] ++ wsX120)
def wsX12_draw : List Cond := .code yX12_draw cX12_draw 2 (some .int) :: ([.constantLong RX12 285 (1103515245), .fieldLink RX12 287 "ShameYardsModel" "seedNow" "J", .constantLong RX12 291 (12345), .constantLong RX12 293 (2147483647), .constantLong RX12 295 (65536)] ++ wsX120)
def wsX12_passageAt : List Cond := .code yX12_passageAt cX12_passageAt 5 (some .int) :: ([.methodLink RX12 198 yX12_endsAt, .instanceMethod yX12_endsAt, .selects RX12 yX12_endsAt yX12_endsAt, .initialized RX12, .code yX12_endsAt cX12_endsAt 3 (some .boolean), .fieldLink RX12 7 "ShameYardsModel" "oneEnd" "[I", .fieldLink RX12 13 "ShameYardsModel" "otherEnd" "[I"] ++ wsX120)
def wsX12_inRoom : List Cond := .code yX12_inRoom cX12_inRoom 4 (some .int) :: ([.fieldLink RX12 156 "ShameYardsModel" "people" "I", .fieldLink RX12 28 "ShameYardsModel" "roomOf" "[I"] ++ wsX120)
def wsX12_daysNow_r1 : List Cond := [Cond.fieldLink RX12 75 "ShameYardsModel" "savedLies" "[I", Cond.fieldLink RX12 25 "ShameYardsModel" "liesOf" "[I", Cond.fieldLink RX12 78 "ShameYardsModel" "savedRoom" "[I", Cond.fieldLink RX12 28 "ShameYardsModel" "roomOf" "[I", Cond.fieldLink RX12 287 "ShameYardsModel" "seedNow" "J", Cond.fieldLink RX12 156 "ShameYardsModel" "people" "I", Cond.methodLink RX12 297 yX12_draw, Cond.instanceMethod yX12_draw, Cond.selects RX12 yX12_draw yX12_draw, Cond.initialized RX12, Cond.code yX12_draw cX12_draw 2 (some .int), Cond.constantLong RX12 285 (1103515245), Cond.constantLong RX12 291 (12345), Cond.constantLong RX12 293 (2147483647), Cond.constantLong RX12 295 (65536), Cond.methodLink RX12 256 yX12_ending, Cond.instanceMethod yX12_ending, Cond.selects RX12 yX12_ending yX12_ending, Cond.code yX12_ending cX12_ending 4 (some .int), Cond.fieldLink RX12 153 "ShameYardsModel" "passages" "I", Cond.methodLink RX12 198 yX12_endsAt, Cond.instanceMethod yX12_endsAt, Cond.selects RX12 yX12_endsAt yX12_endsAt, Cond.code yX12_endsAt cX12_endsAt 3 (some .boolean)]
def wsX12_daysNow_r2 : List Cond := [Cond.fieldLink RX12 7 "ShameYardsModel" "oneEnd" "[I", Cond.fieldLink RX12 13 "ShameYardsModel" "otherEnd" "[I", Cond.methodLink RX12 300 yX12_passageAt, Cond.instanceMethod yX12_passageAt, Cond.selects RX12 yX12_passageAt yX12_passageAt, Cond.code yX12_passageAt cX12_passageAt 5 (some .int), Cond.methodLink RX12 172 yX12_alone, Cond.instanceMethod yX12_alone, Cond.selects RX12 yX12_alone yX12_alone, Cond.code yX12_alone cX12_alone 5 (some .int), Cond.fieldLink RX12 16 "ShameYardsModel" "lengthOf" "[I", Cond.fieldLink RX12 22 "ShameYardsModel" "deedsOf" "[I", Cond.fieldLink RX12 19 "ShameYardsModel" "kindOf" "[I", Cond.methodLink RX12 204 yX12_beyond, Cond.instanceMethod yX12_beyond, Cond.selects RX12 yX12_beyond yX12_beyond, Cond.code yX12_beyond cX12_beyond 3 (some .int), Cond.methodLink RX12 303 yX12_inRoom, Cond.instanceMethod yX12_inRoom, Cond.selects RX12 yX12_inRoom yX12_inRoom, Cond.code yX12_inRoom cX12_inRoom 4 (some .int)]
def wsX12_daysNow : List Cond := .code yX12_daysNow cX12_daysNow 9 (some .int) :: ((wsX12_daysNow_r1 ++ wsX12_daysNow_r2) ++ wsX120)
def wsX12_days_r1 : List Cond := [Cond.fieldLink RX12 156 "ShameYardsModel" "people" "I", Cond.methodLink RX12 108 yX12_within, Cond.static yX12_within, Cond.initialized RX12, Cond.code yX12_within cX12_within 3 (some .boolean), Cond.methodLink RX12 306 yX12_daysNow, Cond.instanceMethod yX12_daysNow, Cond.selects RX12 yX12_daysNow yX12_daysNow, Cond.code yX12_daysNow cX12_daysNow 9 (some .int), Cond.fieldLink RX12 75 "ShameYardsModel" "savedLies" "[I", Cond.fieldLink RX12 25 "ShameYardsModel" "liesOf" "[I", Cond.fieldLink RX12 78 "ShameYardsModel" "savedRoom" "[I", Cond.fieldLink RX12 28 "ShameYardsModel" "roomOf" "[I", Cond.fieldLink RX12 287 "ShameYardsModel" "seedNow" "J", Cond.methodLink RX12 297 yX12_draw, Cond.instanceMethod yX12_draw, Cond.selects RX12 yX12_draw yX12_draw, Cond.code yX12_draw cX12_draw 2 (some .int), Cond.constantLong RX12 285 (1103515245), Cond.constantLong RX12 291 (12345), Cond.constantLong RX12 293 (2147483647), Cond.constantLong RX12 295 (65536), Cond.methodLink RX12 256 yX12_ending, Cond.instanceMethod yX12_ending]
def wsX12_days_r2 : List Cond := [Cond.selects RX12 yX12_ending yX12_ending, Cond.code yX12_ending cX12_ending 4 (some .int), Cond.fieldLink RX12 153 "ShameYardsModel" "passages" "I", Cond.methodLink RX12 198 yX12_endsAt, Cond.instanceMethod yX12_endsAt, Cond.selects RX12 yX12_endsAt yX12_endsAt, Cond.code yX12_endsAt cX12_endsAt 3 (some .boolean), Cond.fieldLink RX12 7 "ShameYardsModel" "oneEnd" "[I", Cond.fieldLink RX12 13 "ShameYardsModel" "otherEnd" "[I", Cond.methodLink RX12 300 yX12_passageAt, Cond.instanceMethod yX12_passageAt, Cond.selects RX12 yX12_passageAt yX12_passageAt, Cond.code yX12_passageAt cX12_passageAt 5 (some .int), Cond.methodLink RX12 172 yX12_alone, Cond.instanceMethod yX12_alone, Cond.selects RX12 yX12_alone yX12_alone, Cond.code yX12_alone cX12_alone 5 (some .int), Cond.fieldLink RX12 16 "ShameYardsModel" "lengthOf" "[I", Cond.fieldLink RX12 22 "ShameYardsModel" "deedsOf" "[I", Cond.fieldLink RX12 19 "ShameYardsModel" "kindOf" "[I", Cond.methodLink RX12 204 yX12_beyond, Cond.instanceMethod yX12_beyond, Cond.selects RX12 yX12_beyond yX12_beyond, Cond.code yX12_beyond cX12_beyond 3 (some .int)]
def wsX12_days_r3 : List Cond := [Cond.methodLink RX12 303 yX12_inRoom, Cond.instanceMethod yX12_inRoom, Cond.selects RX12 yX12_inRoom yX12_inRoom, Cond.code yX12_inRoom cX12_inRoom 4 (some .int)]
def wsX12_days : List Cond := .code yX12_days cX12_days 4 (some .int) :: ((wsX12_days_r1 ++ (wsX12_days_r2 ++ wsX12_days_r3)) ++ wsX120)
def wsX12_tookAll : List Cond := .code yX12_tookAll cX12_tookAll 3 (some .int) :: ([.fieldLink RX12 156 "ShameYardsModel" "people" "I", .fieldLink RX12 31 "ShameYardsModel" "tookOf" "[I"] ++ wsX120)
def wsX12_image_r1 : List Cond := [Cond.fieldLink RX12 156 "ShameYardsModel" "people" "I", Cond.fieldLink RX12 309 "ShameYardsModel" "isKept" "Z", Cond.fieldLink RX12 162 "ShameYardsModel" "ministries" "I", Cond.fieldLink RX12 312 "ShameYardsModel" "keptMinistry" "I", Cond.fieldLink RX12 159 "ShameYardsModel" "together" "I", Cond.fieldLink RX12 315 "ShameYardsModel" "keptTogether" "I", Cond.fieldLink RX12 165 "ShameYardsModel" "seen" "I", Cond.fieldLink RX12 318 "ShameYardsModel" "keptSeen" "I", Cond.fieldLink RX12 81 "ShameYardsModel" "keptLength" "[I", Cond.fieldLink RX12 16 "ShameYardsModel" "lengthOf" "[I", Cond.fieldLink RX12 84 "ShameYardsModel" "keptDeeds" "[I", Cond.fieldLink RX12 22 "ShameYardsModel" "deedsOf" "[I", Cond.fieldLink RX12 87 "ShameYardsModel" "keptLies" "[I", Cond.fieldLink RX12 25 "ShameYardsModel" "liesOf" "[I", Cond.fieldLink RX12 90 "ShameYardsModel" "keptRoom" "[I", Cond.fieldLink RX12 28 "ShameYardsModel" "roomOf" "[I", Cond.fieldLink RX12 93 "ShameYardsModel" "keptTook" "[I", Cond.fieldLink RX12 31 "ShameYardsModel" "tookOf" "[I", Cond.fieldLink RX12 96 "ShameYardsModel" "keptPerson" "[I", Cond.fieldLink RX12 34 "ShameYardsModel" "seenPerson" "[I", Cond.fieldLink RX12 99 "ShameYardsModel" "keptPassage" "[I", Cond.fieldLink RX12 37 "ShameYardsModel" "seenPassage" "[I", Cond.fieldLink RX12 102 "ShameYardsModel" "keptWith" "[I", Cond.fieldLink RX12 40 "ShameYardsModel" "seenWith" "[I"]
def wsX12_image_r2 : List Cond := [Cond.fieldLink RX12 105 "ShameYardsModel" "keptSteps" "[I", Cond.fieldLink RX12 43 "ShameYardsModel" "seenSteps" "[I", Cond.methodLink RX12 321 yX12_tookAll, Cond.instanceMethod yX12_tookAll, Cond.selects RX12 yX12_tookAll yX12_tookAll, Cond.initialized RX12, Cond.code yX12_tookAll cX12_tookAll 3 (some .int)]
def wsX12_image : List Cond := .code yX12_image cX12_image 2 (some .int) :: ((wsX12_image_r1 ++ wsX12_image_r2) ++ wsX120)
def wsX12_restore_r1 : List Cond := [Cond.fieldLink RX12 309 "ShameYardsModel" "isKept" "Z", Cond.fieldLink RX12 312 "ShameYardsModel" "keptMinistry" "I", Cond.fieldLink RX12 162 "ShameYardsModel" "ministries" "I", Cond.fieldLink RX12 315 "ShameYardsModel" "keptTogether" "I", Cond.fieldLink RX12 159 "ShameYardsModel" "together" "I", Cond.fieldLink RX12 318 "ShameYardsModel" "keptSeen" "I", Cond.fieldLink RX12 165 "ShameYardsModel" "seen" "I", Cond.fieldLink RX12 16 "ShameYardsModel" "lengthOf" "[I", Cond.fieldLink RX12 81 "ShameYardsModel" "keptLength" "[I", Cond.fieldLink RX12 22 "ShameYardsModel" "deedsOf" "[I", Cond.fieldLink RX12 84 "ShameYardsModel" "keptDeeds" "[I", Cond.fieldLink RX12 25 "ShameYardsModel" "liesOf" "[I", Cond.fieldLink RX12 87 "ShameYardsModel" "keptLies" "[I", Cond.fieldLink RX12 28 "ShameYardsModel" "roomOf" "[I", Cond.fieldLink RX12 90 "ShameYardsModel" "keptRoom" "[I", Cond.fieldLink RX12 31 "ShameYardsModel" "tookOf" "[I", Cond.fieldLink RX12 93 "ShameYardsModel" "keptTook" "[I", Cond.fieldLink RX12 34 "ShameYardsModel" "seenPerson" "[I", Cond.fieldLink RX12 96 "ShameYardsModel" "keptPerson" "[I", Cond.fieldLink RX12 37 "ShameYardsModel" "seenPassage" "[I", Cond.fieldLink RX12 99 "ShameYardsModel" "keptPassage" "[I", Cond.fieldLink RX12 40 "ShameYardsModel" "seenWith" "[I", Cond.fieldLink RX12 102 "ShameYardsModel" "keptWith" "[I", Cond.fieldLink RX12 43 "ShameYardsModel" "seenSteps" "[I"]
def wsX12_restore_r2 : List Cond := [Cond.fieldLink RX12 105 "ShameYardsModel" "keptSteps" "[I", Cond.methodLink RX12 321 yX12_tookAll, Cond.instanceMethod yX12_tookAll, Cond.selects RX12 yX12_tookAll yX12_tookAll, Cond.initialized RX12, Cond.code yX12_tookAll cX12_tookAll 3 (some .int), Cond.fieldLink RX12 156 "ShameYardsModel" "people" "I"]
def wsX12_restore : List Cond := .code yX12_restore cX12_restore 2 (some .int) :: ((wsX12_restore_r1 ++ wsX12_restore_r2) ++ wsX120)
def wsX12_sumOf : List Cond := .code yX12_sumOf cX12_sumOf 4 (some .int) :: ([.fieldLink RX12 156 "ShameYardsModel" "people" "I", .fieldLink RX12 22 "ShameYardsModel" "deedsOf" "[I", .fieldLink RX12 25 "ShameYardsModel" "liesOf" "[I"] ++ wsX120)
def wsX12_howMany_r1 : List Cond := [Cond.fieldLink RX12 150 "ShameYardsModel" "rooms" "I", Cond.fieldLink RX12 153 "ShameYardsModel" "passages" "I", Cond.fieldLink RX12 156 "ShameYardsModel" "people" "I", Cond.fieldLink RX12 159 "ShameYardsModel" "together" "I", Cond.fieldLink RX12 165 "ShameYardsModel" "seen" "I", Cond.fieldLink RX12 112 "ShameYardsModel" "pageLength" "I", Cond.fieldLink RX12 162 "ShameYardsModel" "ministries" "I", Cond.fieldLink RX12 235 "ShameYardsModel" "asks" "I", Cond.methodLink RX12 324 yX12_sumOf, Cond.instanceMethod yX12_sumOf, Cond.selects RX12 yX12_sumOf yX12_sumOf, Cond.initialized RX12, Cond.code yX12_sumOf cX12_sumOf 4 (some .int), Cond.fieldLink RX12 22 "ShameYardsModel" "deedsOf" "[I", Cond.fieldLink RX12 25 "ShameYardsModel" "liesOf" "[I", Cond.methodLink RX12 321 yX12_tookAll, Cond.instanceMethod yX12_tookAll, Cond.selects RX12 yX12_tookAll yX12_tookAll, Cond.code yX12_tookAll cX12_tookAll 3 (some .int), Cond.fieldLink RX12 31 "ShameYardsModel" "tookOf" "[I", Cond.methodLink RX12 303 yX12_inRoom, Cond.instanceMethod yX12_inRoom, Cond.selects RX12 yX12_inRoom yX12_inRoom, Cond.code yX12_inRoom cX12_inRoom 4 (some .int)]
def wsX12_howMany_r2 : List Cond := [Cond.fieldLink RX12 28 "ShameYardsModel" "roomOf" "[I"]
def wsX12_howMany : List Cond := .code yX12_howMany cX12_howMany 2 (some .int) :: ((wsX12_howMany_r1 ++ wsX12_howMany_r2) ++ wsX120)
def wsX12_count_r1 : List Cond := [Cond.methodLink RX12 328 yX12_howMany, Cond.instanceMethod yX12_howMany, Cond.selects RX12 yX12_howMany yX12_howMany, Cond.initialized RX12, Cond.code yX12_howMany cX12_howMany 2 (some .int), Cond.fieldLink RX12 150 "ShameYardsModel" "rooms" "I", Cond.fieldLink RX12 153 "ShameYardsModel" "passages" "I", Cond.fieldLink RX12 156 "ShameYardsModel" "people" "I", Cond.fieldLink RX12 159 "ShameYardsModel" "together" "I", Cond.fieldLink RX12 165 "ShameYardsModel" "seen" "I", Cond.fieldLink RX12 112 "ShameYardsModel" "pageLength" "I", Cond.fieldLink RX12 162 "ShameYardsModel" "ministries" "I", Cond.fieldLink RX12 235 "ShameYardsModel" "asks" "I", Cond.methodLink RX12 324 yX12_sumOf, Cond.instanceMethod yX12_sumOf, Cond.selects RX12 yX12_sumOf yX12_sumOf, Cond.code yX12_sumOf cX12_sumOf 4 (some .int), Cond.fieldLink RX12 22 "ShameYardsModel" "deedsOf" "[I", Cond.fieldLink RX12 25 "ShameYardsModel" "liesOf" "[I", Cond.methodLink RX12 321 yX12_tookAll, Cond.instanceMethod yX12_tookAll, Cond.selects RX12 yX12_tookAll yX12_tookAll, Cond.code yX12_tookAll cX12_tookAll 3 (some .int), Cond.fieldLink RX12 31 "ShameYardsModel" "tookOf" "[I"]
def wsX12_count_r2 : List Cond := [Cond.methodLink RX12 303 yX12_inRoom, Cond.instanceMethod yX12_inRoom, Cond.selects RX12 yX12_inRoom yX12_inRoom, Cond.code yX12_inRoom cX12_inRoom 4 (some .int), Cond.fieldLink RX12 28 "ShameYardsModel" "roomOf" "[I"]
def wsX12_count : List Cond := .code yX12_count cX12_count 2 (some .int) :: ((wsX12_count_r1 ++ wsX12_count_r2) ++ wsX120)
def wsX12_mix : List Cond := .code yX12_mix cX12_mix 3 none :: ([.constantLong RX12 331 (31), .fieldLink RX12 333 "ShameYardsModel" "h" "J"] ++ wsX120)
def wsX12_mixPerson_r1 : List Cond := [Cond.fieldLink RX12 150 "ShameYardsModel" "rooms" "I", Cond.fieldLink RX12 28 "ShameYardsModel" "roomOf" "[I", Cond.methodLink RX12 181 yX12_personNow, Cond.instanceMethod yX12_personNow, Cond.selects RX12 yX12_personNow yX12_personNow, Cond.initialized RX12, Cond.code yX12_personNow cX12_personNow 3 (some .int), Cond.fieldLink RX12 19 "ShameYardsModel" "kindOf" "[I", Cond.fieldLink RX12 22 "ShameYardsModel" "deedsOf" "[I", Cond.fieldLink RX12 25 "ShameYardsModel" "liesOf" "[I", Cond.fieldLink RX12 31 "ShameYardsModel" "tookOf" "[I", Cond.methodLink RX12 175 yX12_liesBits, Cond.instanceMethod yX12_liesBits, Cond.selects RX12 yX12_liesBits yX12_liesBits, Cond.code yX12_liesBits cX12_liesBits 6 (some .int), Cond.fieldLink RX12 165 "ShameYardsModel" "seen" "I", Cond.fieldLink RX12 34 "ShameYardsModel" "seenPerson" "[I", Cond.fieldLink RX12 37 "ShameYardsModel" "seenPassage" "[I", Cond.fieldLink RX12 40 "ShameYardsModel" "seenWith" "[I", Cond.fieldLink RX12 43 "ShameYardsModel" "seenSteps" "[I", Cond.methodLink RX12 279 yX12_stepsWith, Cond.instanceMethod yX12_stepsWith, Cond.selects RX12 yX12_stepsWith yX12_stepsWith, Cond.code yX12_stepsWith cX12_stepsWith 7 (some .int)]
def wsX12_mixPerson_r2 : List Cond := [Cond.methodLink RX12 194 yX12_stepsOf, Cond.instanceMethod yX12_stepsOf, Cond.selects RX12 yX12_stepsOf yX12_stepsOf, Cond.code yX12_stepsOf cX12_stepsOf 4 (some .int), Cond.methodLink RX12 172 yX12_alone, Cond.instanceMethod yX12_alone, Cond.selects RX12 yX12_alone yX12_alone, Cond.code yX12_alone cX12_alone 5 (some .int), Cond.fieldLink RX12 16 "ShameYardsModel" "lengthOf" "[I", Cond.methodLink RX12 178 yX12_askOf, Cond.instanceMethod yX12_askOf, Cond.selects RX12 yX12_askOf yX12_askOf, Cond.code yX12_askOf cX12_askOf 8 (some .int), Cond.constant RX12 207 (268435456), Cond.fieldLink RX12 153 "ShameYardsModel" "passages" "I", Cond.fieldLink RX12 156 "ShameYardsModel" "people" "I", Cond.methodLink RX12 282 yX12_worstBy, Cond.instanceMethod yX12_worstBy, Cond.selects RX12 yX12_worstBy yX12_worstBy, Cond.code yX12_worstBy cX12_worstBy 9 (some .int), Cond.methodLink RX12 225 yX12_isIn, Cond.static yX12_isIn, Cond.code yX12_isIn cX12_isIn 2 (some .boolean), Cond.methodLink RX12 336 yX12_mix]
def wsX12_mixPerson_r3 : List Cond := [Cond.instanceMethod yX12_mix, Cond.selects RX12 yX12_mix yX12_mix, Cond.code yX12_mix cX12_mix 3 none, Cond.constantLong RX12 331 (31), Cond.fieldLink RX12 333 "ShameYardsModel" "h" "J", Cond.methodLink RX12 221 yX12_farNow, Cond.instanceMethod yX12_farNow, Cond.selects RX12 yX12_farNow yX12_farNow, Cond.code yX12_farNow cX12_farNow 9 (some .int), Cond.methodLink RX12 212 yX12_farFrom, Cond.instanceMethod yX12_farFrom, Cond.selects RX12 yX12_farFrom yX12_farFrom, Cond.code yX12_farFrom cX12_farFrom 4 (some .int), Cond.fieldLink RX12 50 "ShameYardsModel" "farTo" "[I", Cond.methodLink RX12 208 yX12_layFar, Cond.instanceMethod yX12_layFar, Cond.selects RX12 yX12_layFar yX12_layFar, Cond.code yX12_layFar cX12_layFar 8 none, Cond.fieldLink RX12 7 "ShameYardsModel" "oneEnd" "[I", Cond.fieldLink RX12 13 "ShameYardsModel" "otherEnd" "[I", Cond.methodLink RX12 215 yX12_nextPassage, Cond.instanceMethod yX12_nextPassage, Cond.selects RX12 yX12_nextPassage yX12_nextPassage, Cond.code yX12_nextPassage cX12_nextPassage 4 (some .int)]
def wsX12_mixPerson_r4 : List Cond := [Cond.methodLink RX12 198 yX12_endsAt, Cond.instanceMethod yX12_endsAt, Cond.selects RX12 yX12_endsAt yX12_endsAt, Cond.code yX12_endsAt cX12_endsAt 3 (some .boolean), Cond.methodLink RX12 204 yX12_beyond, Cond.instanceMethod yX12_beyond, Cond.selects RX12 yX12_beyond yX12_beyond, Cond.code yX12_beyond cX12_beyond 3 (some .int)]
def wsX12_mixPerson : List Cond := .code yX12_mixPerson cX12_mixPerson 3 none :: ((wsX12_mixPerson_r1 ++ (wsX12_mixPerson_r2 ++ (wsX12_mixPerson_r3 ++ wsX12_mixPerson_r4))) ++ wsX120)
def wsX12_digest_r1 : List Cond := [Cond.constantLong RX12 340 (1193), Cond.fieldLink RX12 333 "ShameYardsModel" "h" "J", Cond.fieldLink RX12 156 "ShameYardsModel" "people" "I", Cond.fieldLink RX12 153 "ShameYardsModel" "passages" "I", Cond.fieldLink RX12 7 "ShameYardsModel" "oneEnd" "[I", Cond.fieldLink RX12 13 "ShameYardsModel" "otherEnd" "[I", Cond.fieldLink RX12 16 "ShameYardsModel" "lengthOf" "[I", Cond.fieldLink RX12 112 "ShameYardsModel" "pageLength" "I", Cond.fieldLink RX12 46 "ShameYardsModel" "page" "[B", Cond.methodLink RX12 342 yX12_mixPerson, Cond.instanceMethod yX12_mixPerson, Cond.selects RX12 yX12_mixPerson yX12_mixPerson, Cond.initialized RX12, Cond.code yX12_mixPerson cX12_mixPerson 3 none, Cond.fieldLink RX12 150 "ShameYardsModel" "rooms" "I", Cond.fieldLink RX12 28 "ShameYardsModel" "roomOf" "[I", Cond.methodLink RX12 181 yX12_personNow, Cond.instanceMethod yX12_personNow, Cond.selects RX12 yX12_personNow yX12_personNow, Cond.code yX12_personNow cX12_personNow 3 (some .int), Cond.fieldLink RX12 19 "ShameYardsModel" "kindOf" "[I", Cond.fieldLink RX12 22 "ShameYardsModel" "deedsOf" "[I", Cond.fieldLink RX12 25 "ShameYardsModel" "liesOf" "[I", Cond.fieldLink RX12 31 "ShameYardsModel" "tookOf" "[I"]
def wsX12_digest_r2 : List Cond := [Cond.methodLink RX12 175 yX12_liesBits, Cond.instanceMethod yX12_liesBits, Cond.selects RX12 yX12_liesBits yX12_liesBits, Cond.code yX12_liesBits cX12_liesBits 6 (some .int), Cond.fieldLink RX12 165 "ShameYardsModel" "seen" "I", Cond.fieldLink RX12 34 "ShameYardsModel" "seenPerson" "[I", Cond.fieldLink RX12 37 "ShameYardsModel" "seenPassage" "[I", Cond.fieldLink RX12 40 "ShameYardsModel" "seenWith" "[I", Cond.fieldLink RX12 43 "ShameYardsModel" "seenSteps" "[I", Cond.methodLink RX12 279 yX12_stepsWith, Cond.instanceMethod yX12_stepsWith, Cond.selects RX12 yX12_stepsWith yX12_stepsWith, Cond.code yX12_stepsWith cX12_stepsWith 7 (some .int), Cond.methodLink RX12 194 yX12_stepsOf, Cond.instanceMethod yX12_stepsOf, Cond.selects RX12 yX12_stepsOf yX12_stepsOf, Cond.code yX12_stepsOf cX12_stepsOf 4 (some .int), Cond.methodLink RX12 172 yX12_alone, Cond.instanceMethod yX12_alone, Cond.selects RX12 yX12_alone yX12_alone, Cond.code yX12_alone cX12_alone 5 (some .int), Cond.methodLink RX12 178 yX12_askOf, Cond.instanceMethod yX12_askOf, Cond.selects RX12 yX12_askOf yX12_askOf]
def wsX12_digest_r3 : List Cond := [Cond.code yX12_askOf cX12_askOf 8 (some .int), Cond.constant RX12 207 (268435456), Cond.methodLink RX12 282 yX12_worstBy, Cond.instanceMethod yX12_worstBy, Cond.selects RX12 yX12_worstBy yX12_worstBy, Cond.code yX12_worstBy cX12_worstBy 9 (some .int), Cond.methodLink RX12 225 yX12_isIn, Cond.static yX12_isIn, Cond.code yX12_isIn cX12_isIn 2 (some .boolean), Cond.methodLink RX12 336 yX12_mix, Cond.instanceMethod yX12_mix, Cond.selects RX12 yX12_mix yX12_mix, Cond.code yX12_mix cX12_mix 3 none, Cond.constantLong RX12 331 (31), Cond.methodLink RX12 221 yX12_farNow, Cond.instanceMethod yX12_farNow, Cond.selects RX12 yX12_farNow yX12_farNow, Cond.code yX12_farNow cX12_farNow 9 (some .int), Cond.methodLink RX12 212 yX12_farFrom, Cond.instanceMethod yX12_farFrom, Cond.selects RX12 yX12_farFrom yX12_farFrom, Cond.code yX12_farFrom cX12_farFrom 4 (some .int), Cond.fieldLink RX12 50 "ShameYardsModel" "farTo" "[I", Cond.methodLink RX12 208 yX12_layFar]
def wsX12_digest_r4 : List Cond := [Cond.instanceMethod yX12_layFar, Cond.selects RX12 yX12_layFar yX12_layFar, Cond.code yX12_layFar cX12_layFar 8 none, Cond.methodLink RX12 215 yX12_nextPassage, Cond.instanceMethod yX12_nextPassage, Cond.selects RX12 yX12_nextPassage yX12_nextPassage, Cond.code yX12_nextPassage cX12_nextPassage 4 (some .int), Cond.methodLink RX12 198 yX12_endsAt, Cond.instanceMethod yX12_endsAt, Cond.selects RX12 yX12_endsAt yX12_endsAt, Cond.code yX12_endsAt cX12_endsAt 3 (some .boolean), Cond.methodLink RX12 204 yX12_beyond, Cond.instanceMethod yX12_beyond, Cond.selects RX12 yX12_beyond yX12_beyond, Cond.code yX12_beyond cX12_beyond 3 (some .int), Cond.methodLink RX12 253 yX12_pairsNow, Cond.instanceMethod yX12_pairsNow, Cond.selects RX12 yX12_pairsNow yX12_pairsNow, Cond.code yX12_pairsNow cX12_pairsNow 9 (some .int), Cond.fieldLink RX12 62 "ShameYardsModel" "mate" "[I", Cond.fieldLink RX12 65 "ShameYardsModel" "bestMate" "[I", Cond.methodLink RX12 241 yX12_arePairs, Cond.instanceMethod yX12_arePairs, Cond.selects RX12 yX12_arePairs yX12_arePairs]
def wsX12_digest_r5 : List Cond := [Cond.code yX12_arePairs cX12_arePairs 4 (some .boolean), Cond.methodLink RX12 244 yX12_mostSteps, Cond.instanceMethod yX12_mostSteps, Cond.selects RX12 yX12_mostSteps yX12_mostSteps, Cond.code yX12_mostSteps cX12_mostSteps 5 (some .int), Cond.methodLink RX12 247 yX12_goTogether, Cond.instanceMethod yX12_goTogether, Cond.selects RX12 yX12_goTogether yX12_goTogether, Cond.code yX12_goTogether cX12_goTogether 3 (some .int), Cond.methodLink RX12 250 yX12_nextMates, Cond.instanceMethod yX12_nextMates, Cond.selects RX12 yX12_nextMates yX12_nextMates, Cond.code yX12_nextMates cX12_nextMates 2 (some .boolean), Cond.methodLink RX12 273 yX12_meetNow, Cond.instanceMethod yX12_meetNow, Cond.selects RX12 yX12_meetNow yX12_meetNow, Cond.code yX12_meetNow cX12_meetNow 11 (some .long), Cond.fieldLink RX12 68 "ShameYardsModel" "likely" "[J", Cond.constantLong RX12 265 (176400), Cond.methodLink RX12 261 yX12_turn, Cond.instanceMethod yX12_turn, Cond.selects RX12 yX12_turn yX12_turn, Cond.code yX12_turn cX12_turn 5 none, Cond.fieldLink RX12 72 "ShameYardsModel" "next" "[J"]
def wsX12_digest_r6 : List Cond := [Cond.constantLong RX12 259 (420), Cond.methodLink RX12 256 yX12_ending, Cond.instanceMethod yX12_ending, Cond.selects RX12 yX12_ending yX12_ending, Cond.code yX12_ending cX12_ending 4 (some .int), Cond.methodLink RX12 267 yX12_divisor, Cond.static yX12_divisor, Cond.code yX12_divisor cX12_divisor 10 (some .long), Cond.methodLink RX12 328 yX12_howMany, Cond.instanceMethod yX12_howMany, Cond.selects RX12 yX12_howMany yX12_howMany, Cond.code yX12_howMany cX12_howMany 2 (some .int), Cond.fieldLink RX12 159 "ShameYardsModel" "together" "I", Cond.fieldLink RX12 162 "ShameYardsModel" "ministries" "I", Cond.fieldLink RX12 235 "ShameYardsModel" "asks" "I", Cond.methodLink RX12 324 yX12_sumOf, Cond.instanceMethod yX12_sumOf, Cond.selects RX12 yX12_sumOf yX12_sumOf, Cond.code yX12_sumOf cX12_sumOf 4 (some .int), Cond.methodLink RX12 321 yX12_tookAll, Cond.instanceMethod yX12_tookAll, Cond.selects RX12 yX12_tookAll yX12_tookAll, Cond.code yX12_tookAll cX12_tookAll 3 (some .int), Cond.methodLink RX12 303 yX12_inRoom]
def wsX12_digest_r7 : List Cond := [Cond.instanceMethod yX12_inRoom, Cond.selects RX12 yX12_inRoom yX12_inRoom, Cond.code yX12_inRoom cX12_inRoom 4 (some .int)]
def wsX12_digest : List Cond := .code yX12_digest cX12_digest 3 (some .long) :: ((wsX12_digest_r1 ++ (wsX12_digest_r2 ++ (wsX12_digest_r3 ++ (wsX12_digest_r4 ++ (wsX12_digest_r5 ++ (wsX12_digest_r6 ++ wsX12_digest_r7)))))) ++ wsX120)
def wsJ9_max_7cf53 : List Cond := .code yJ9_max_7cf53 cJ9_max_7cf53 2 (some .int) :: ([])
def wsJ9_min_7cf53 : List Cond := .code yJ9_min_7cf53 cJ9_min_7cf53 2 (some .int) :: ([])
def wsL_law_r1 : List Cond := [Cond.classLink RL 7 RX11, Cond.instantiable RX11 9, Cond.initialized RX11, Cond.classLink RL 10 RX12, Cond.instantiable RX12 49, Cond.initialized RX12, Cond.methodLink RL 9 yX11_init, Cond.instanceMethod yX11_init, Cond.code yX11_init cX11_init 1 none, Cond.methodLink RX11 1 objectInit, Cond.instanceMethod objectInit, Cond.code objectInit ⟨#[0xb1]⟩ 1 none, Cond.classLink RX11 7 RX5, Cond.instantiable RX5 2, Cond.initialized RX5, Cond.fieldLink RX11 10 "ShameYards" "page" "LShameYards$Page;", Cond.classLink RX11 16 RX2, Cond.instantiable RX2 18, Cond.initialized RX2, Cond.fieldLink RX11 19 "ShameYards" "now" "LShameYards$House;", Cond.fieldLink RX11 23 "ShameYards" "kept" "LShameYards$House;", Cond.classLink RX11 26 RX9, Cond.instantiable RX9 6, Cond.initialized RX9]
def wsL_law_r2 : List Cond := [Cond.fieldLink RX11 29 "ShameYards" "ways" "LShameYards$Ways;", Cond.classLink RX11 33 RX6, Cond.instantiable RX6 6, Cond.initialized RX6, Cond.fieldLink RX11 36 "ShameYards" "pairing" "LShameYards$Pairing;", Cond.classLink RX11 40 RX8, Cond.instantiable RX8 8, Cond.initialized RX8, Cond.fieldLink RX11 43 "ShameYards" "wander" "LShameYards$Wander;", Cond.instanceMethod yX5_init, Cond.code yX5_init cX5_init 1 none, Cond.methodLink RX5 3 objectInit, Cond.arrayClass .int, Cond.fieldLink RX5 9 "ShameYards$Page" "codes" "[I", Cond.instanceMethod yX2_init, Cond.code yX2_init cX2_init 1 none, Cond.methodLink RX2 3 objectInit, Cond.classLink RX2 9 RX1, Cond.instantiable RX1 0, Cond.initialized RX1, Cond.classLink RX2 12 RX0, Cond.instantiable RX0 0, Cond.initialized RX0, Cond.classLink RX2 15 RX4]
def wsL_law_r3 : List Cond := [Cond.instantiable RX4 0, Cond.initialized RX4, Cond.classLink RX2 18 RX10, Cond.instantiable RX10 0, Cond.initialized RX10, Cond.classLink RX2 21 RX3, Cond.instantiable RX3 0, Cond.initialized RX3, Cond.fieldLink RX2 24 "ShameYards$House" "clerks" "[LShameYards$Clerk;", Cond.fieldLink RX2 30 "ShameYards$House" "oneEnd" "[I", Cond.fieldLink RX2 34 "ShameYards$House" "otherEnd" "[I", Cond.fieldLink RX2 37 "ShameYards$House" "lengths" "[I", Cond.fieldLink RX2 40 "ShameYards$House" "kinds" "[I", Cond.fieldLink RX2 43 "ShameYards$House" "deeds" "[I", Cond.fieldLink RX2 46 "ShameYards$House" "lies" "[I", Cond.fieldLink RX2 49 "ShameYards$House" "places" "[I", Cond.fieldLink RX2 52 "ShameYards$House" "taken" "[I", Cond.fieldLink RX2 55 "ShameYards$House" "seenPerson" "[I", Cond.fieldLink RX2 58 "ShameYards$House" "seenPassage" "[I", Cond.fieldLink RX2 61 "ShameYards$House" "seenWith" "[I", Cond.fieldLink RX2 64 "ShameYards$House" "seenSteps" "[I", Cond.instanceMethod yX1_init, Cond.code yX1_init cX1_init 1 none, Cond.methodLink RX1 1 objectInit]
def wsL_law_r4 : List Cond := [Cond.instanceMethod yX0_init, Cond.code yX0_init cX0_init 1 none, Cond.instanceMethod yX4_init, Cond.code yX4_init cX4_init 1 none, Cond.instanceMethod yX10_init, Cond.code yX10_init cX10_init 1 none, Cond.instanceMethod yX3_init, Cond.code yX3_init cX3_init 1 none, Cond.instanceMethod yX9_init, Cond.code yX9_init cX9_init 1 none, Cond.methodLink RX9 3 objectInit, Cond.fieldLink RX9 9 "ShameYards$Ways" "tolls" "[I", Cond.fieldLink RX9 15 "ShameYards$Ways" "reach" "[I", Cond.classLink RX9 18 "[[I", Cond.fieldLink RX9 20 "ShameYards$Ways" "costs" "[[I", Cond.fieldLink RX9 23 "ShameYards$Ways" "trial" "[I", Cond.fieldLink RX9 26 "ShameYards$Ways" "best" "[I", Cond.constant RX9 29 (1000000), Cond.fieldLink RX9 30 "ShameYards$Ways" "fewest" "I", Cond.instanceMethod yX6_init, Cond.code yX6_init cX6_init 1 none, Cond.methodLink RX6 3 objectInit, Cond.classLink RX6 9 "[[I", Cond.fieldLink RX6 11 "ShameYards$Pairing" "has" "[[I"]
def wsL_law_r5 : List Cond := [Cond.fieldLink RX6 16 "ShameYards$Pairing" "trial" "[I", Cond.fieldLink RX6 20 "ShameYards$Pairing" "best" "[I", Cond.instanceMethod yX8_init, Cond.code yX8_init cX8_init 1 none, Cond.methodLink RX8 3 objectInit, Cond.arrayClass .long, Cond.fieldLink RX8 9 "ShameYards$Wander" "chancesOfA" "[J", Cond.fieldLink RX8 15 "ShameYards$Wander" "chancesOfB" "[J", Cond.fieldLink RX8 18 "ShameYards$Wander" "next" "[J", Cond.classLink RX8 21 RX2, Cond.fieldLink RX8 24 "ShameYards$Wander" "dreamt" "LShameYards$House;", Cond.fieldLink RX8 28 "ShameYards$Wander" "below" "J", Cond.methodLink RL 12 yX12_init, Cond.instanceMethod yX12_init, Cond.code yX12_init cX12_init 1 none, Cond.methodLink RX12 1 objectInit, Cond.fieldLink RX12 7 "ShameYardsModel" "oneEnd" "[I", Cond.fieldLink RX12 13 "ShameYardsModel" "otherEnd" "[I", Cond.fieldLink RX12 16 "ShameYardsModel" "lengthOf" "[I", Cond.fieldLink RX12 19 "ShameYardsModel" "kindOf" "[I", Cond.fieldLink RX12 22 "ShameYardsModel" "deedsOf" "[I", Cond.fieldLink RX12 25 "ShameYardsModel" "liesOf" "[I", Cond.fieldLink RX12 28 "ShameYardsModel" "roomOf" "[I", Cond.fieldLink RX12 31 "ShameYardsModel" "tookOf" "[I"]
def wsL_law_r6 : List Cond := [Cond.fieldLink RX12 34 "ShameYardsModel" "seenPerson" "[I", Cond.fieldLink RX12 37 "ShameYardsModel" "seenPassage" "[I", Cond.fieldLink RX12 40 "ShameYardsModel" "seenWith" "[I", Cond.fieldLink RX12 43 "ShameYardsModel" "seenSteps" "[I", Cond.arrayClass .byte, Cond.fieldLink RX12 46 "ShameYardsModel" "page" "[B", Cond.fieldLink RX12 50 "ShameYardsModel" "farTo" "[I", Cond.fieldLink RX12 53 "ShameYardsModel" "sent" "[I", Cond.fieldLink RX12 56 "ShameYardsModel" "bestSent" "[I", Cond.fieldLink RX12 59 "ShameYardsModel" "farBy" "[I", Cond.fieldLink RX12 62 "ShameYardsModel" "mate" "[I", Cond.fieldLink RX12 65 "ShameYardsModel" "bestMate" "[I", Cond.fieldLink RX12 68 "ShameYardsModel" "likely" "[J", Cond.fieldLink RX12 72 "ShameYardsModel" "next" "[J", Cond.fieldLink RX12 75 "ShameYardsModel" "savedLies" "[I", Cond.fieldLink RX12 78 "ShameYardsModel" "savedRoom" "[I", Cond.fieldLink RX12 81 "ShameYardsModel" "keptLength" "[I", Cond.fieldLink RX12 84 "ShameYardsModel" "keptDeeds" "[I", Cond.fieldLink RX12 87 "ShameYardsModel" "keptLies" "[I", Cond.fieldLink RX12 90 "ShameYardsModel" "keptRoom" "[I", Cond.fieldLink RX12 93 "ShameYardsModel" "keptTook" "[I", Cond.fieldLink RX12 96 "ShameYardsModel" "keptPerson" "[I", Cond.fieldLink RX12 99 "ShameYardsModel" "keptPassage" "[I", Cond.fieldLink RX12 102 "ShameYardsModel" "keptWith" "[I"]
def wsL_law_r7 : List Cond := [Cond.fieldLink RX12 105 "ShameYardsModel" "keptSteps" "[I", Cond.methodLink RL 13 yX11_letter, Cond.instanceMethod yX11_letter, Cond.selects RX11 yX11_letter yX11_letter, Cond.code yX11_letter cX11_letter 2 (some .int), Cond.fieldLink RX11 47 "ShameYards$Page" "size" "I", Cond.methodLink RX11 51 yX5_append, Cond.instanceMethod yX5_append, Cond.selects RX5 yX5_append yX5_append, Cond.code yX5_append cX5_append 2 none, Cond.fieldLink RX5 15 "ShameYards$Page" "size" "I", Cond.methodLink RL 17 yX12_letter, Cond.instanceMethod yX12_letter, Cond.selects RX12 yX12_letter yX12_letter, Cond.code yX12_letter cX12_letter 2 (some .int), Cond.fieldLink RX12 112 "ShameYardsModel" "pageLength" "I", Cond.methodLink RX12 108 yX12_within, Cond.static yX12_within, Cond.code yX12_within cX12_within 3 (some .boolean), Cond.methodLink RL 18 yX11_blank, Cond.instanceMethod yX11_blank, Cond.selects RX11 yX11_blank yX11_blank, Cond.code yX11_blank cX11_blank 2 (some .int), Cond.methodLink RL 22 yX12_blank]
def wsL_law_r8 : List Cond := [Cond.instanceMethod yX12_blank, Cond.selects RX12 yX12_blank yX12_blank, Cond.code yX12_blank cX12_blank 2 (some .int), Cond.methodLink RL 23 yX11_fault, Cond.instanceMethod yX11_fault, Cond.selects RX11 yX11_fault yX11_fault, Cond.code yX11_fault cX11_fault 1 (some .int), Cond.methodLink RX11 55 yX5_firstFault, Cond.instanceMethod yX5_firstFault, Cond.selects RX5 yX5_firstFault yX5_firstFault, Cond.code yX5_firstFault cX5_firstFault 3 (some .int), Cond.methodLink RX5 30 yX5_border, Cond.instanceMethod yX5_border, Cond.selects RX5 yX5_border yX5_border, Cond.code yX5_border cX5_border 2 (some .int), Cond.methodLink RX5 34 yX5_fits, Cond.instanceMethod yX5_fits, Cond.selects RX5 yX5_fits yX5_fits, Cond.code yX5_fits cX5_fits 3 (some .boolean), Cond.methodLink RX5 41 yX5_isDigit, Cond.instanceMethod yX5_isDigit, Cond.selects RX5 yX5_isDigit yX5_isDigit, Cond.code yX5_isDigit cX5_isDigit 5 (some .boolean), Cond.methodLink RX5 19 yX5_codeAt]
def wsL_law_r9 : List Cond := [Cond.instanceMethod yX5_codeAt, Cond.selects RX5 yX5_codeAt yX5_codeAt, Cond.code yX5_codeAt cX5_codeAt 2 (some .int), Cond.methodLink RX5 45 yX5_fitsPassage, Cond.instanceMethod yX5_fitsPassage, Cond.selects RX5 yX5_fitsPassage yX5_fitsPassage, Cond.code yX5_fitsPassage cX5_fitsPassage 3 (some .boolean), Cond.methodLink RX5 52 yX5_digitAt, Cond.instanceMethod yX5_digitAt, Cond.selects RX5 yX5_digitAt yX5_digitAt, Cond.code yX5_digitAt cX5_digitAt 2 (some .int), Cond.methodLink RX5 49 yX5_fitsPerson, Cond.instanceMethod yX5_fitsPerson, Cond.selects RX5 yX5_fitsPerson yX5_fitsPerson, Cond.code yX5_fitsPerson cX5_fitsPerson 3 (some .boolean), Cond.methodLink RX5 55 yX5_kindAt, Cond.instanceMethod yX5_kindAt, Cond.selects RX5 yX5_kindAt yX5_kindAt, Cond.code yX5_kindAt cX5_kindAt 2 (some .int), Cond.methodLink RX5 25 yJ0_indexOf_0f7a4, Cond.instanceMethod yJ0_indexOf_0f7a4, Cond.selects RJ0 yJ0_indexOf_0f7a4 yJ0_indexOf_0f7a4, Cond.initialized RJ0, Cond.code yJ0_indexOf_0f7a4 cJ0_indexOf_0f7a4 2 (some .int)]
def wsL_law_r10 : List Cond := [Cond.methodLink RJ0 633 yJ0_indexOf_7cf53, Cond.instanceMethod yJ0_indexOf_7cf53, Cond.selects RJ0 yJ0_indexOf_7cf53 yJ0_indexOf_7cf53, Cond.code yJ0_indexOf_7cf53 cJ0_indexOf_7cf53 3 (some .int), Cond.fieldLink RJ0 9 "java/lang/String" "value" "[B", Cond.methodLink RJ0 492 yJ0_isLatin1_aae02, Cond.instanceMethod yJ0_isLatin1_aae02, Cond.selects RJ0 yJ0_isLatin1_aae02 yJ0_isLatin1_aae02, Cond.code yJ0_isLatin1_aae02 cJ0_isLatin1_aae02 1 (some .boolean), Cond.fieldLink RJ0 38 "java/lang/String" "COMPACT_STRINGS" "Z", Cond.fieldLink RJ0 15 "java/lang/String" "coder" "B", Cond.methodLink RJ0 505 yJ0_length_8abf5, Cond.instanceMethod yJ0_length_8abf5, Cond.selects RJ0 yJ0_length_8abf5 yJ0_length_8abf5, Cond.code yJ0_length_8abf5 cJ0_length_8abf5 1 (some .int), Cond.methodLink RJ0 335 yJ0_coder_7d493, Cond.instanceMethod yJ0_coder_7d493, Cond.selects RJ0 yJ0_coder_7d493 yJ0_coder_7d493, Cond.code yJ0_coder_7d493 cJ0_coder_7d493 1 (some .byte), Cond.methodLink RJ0 637 yJ1_indexOf_4cfef, Cond.static yJ1_indexOf_4cfef, Cond.initialized RJ1, Cond.code yJ1_indexOf_4cfef cJ1_indexOf_4cfef 4 (some .int), Cond.methodLink RJ1 92 Lib.Math.max.name]
def wsL_law_r11 : List Cond := [Cond.static Lib.Math.max.name, Cond.initialized "java/lang/Math", Cond.code Lib.Math.max.name Lib.Math.max.code 2 (some .int), Cond.methodLink RJ1 38 Lib.Math.min.name, Cond.static Lib.Math.min.name, Cond.code Lib.Math.min.name Lib.Math.min.code 2 (some .int), Cond.methodLink RJ1 88 yJ1_canEncode_9a6ad, Cond.static yJ1_canEncode_9a6ad, Cond.code yJ1_canEncode_9a6ad cJ1_canEncode_9a6ad 1 (some .boolean), Cond.methodLink RJ1 95 yJ1_indexOfChar_4cfef, Cond.static yJ1_indexOfChar_4cfef, Cond.code yJ1_indexOfChar_4cfef cJ1_indexOfChar_4cfef 6 (some .int), Cond.methodLink RJ0 640 yJ2_indexOf_4cfef, Cond.static yJ2_indexOf_4cfef, Cond.initialized RJ2, Cond.code yJ2_indexOf_4cfef cJ2_indexOf_4cfef 4 (some .int), Cond.methodLink RJ2 224 Lib.Math.max.name, Cond.methodLink RJ2 183 Lib.Math.min.name, Cond.constant RJ2 227 (65536), Cond.methodLink RJ2 228 yJ2_indexOfChar_4cfef, Cond.static yJ2_indexOfChar_4cfef, Cond.code yJ2_indexOfChar_4cfef cJ2_indexOfChar_4cfef 4 (some .int), Cond.methodLink RJ2 96 yJ2_checkBoundsBeginEnd_d044e, Cond.static yJ2_checkBoundsBeginEnd_d044e]
def wsL_law_r12 : List Cond := [Cond.code yJ2_checkBoundsBeginEnd_d044e cJ2_checkBoundsBeginEnd_d044e 3 none, Cond.methodLink RJ2 48 yJ2_length_9d52b, Cond.static yJ2_length_9d52b, Cond.code yJ2_length_9d52b cJ2_length_9d52b 1 (some .int), Cond.methodLink RJ2 241 yJ0_checkBoundsBeginEnd_23922, Cond.static yJ0_checkBoundsBeginEnd_23922, Cond.code yJ0_checkBoundsBeginEnd_23922 cJ0_checkBoundsBeginEnd_23922 3 none, Cond.fieldLink RJ0 1053 "jdk/internal/util/Preconditions" "SIOOBE_FORMATTER" "Ljava/util/function/BiFunction;", Cond.methodLink RJ0 1062 yJ3_checkFromToIndex_8c36e, Cond.static yJ3_checkFromToIndex_8c36e, Cond.initialized RJ3, Cond.code yJ3_checkFromToIndex_8c36e cJ3_checkFromToIndex_8c36e 4 (some .int), Cond.methodLink RJ2 244 yJ2_indexOfCharUnsafe_4cfef, Cond.static yJ2_indexOfCharUnsafe_4cfef, Cond.code yJ2_indexOfCharUnsafe_4cfef cJ2_indexOfCharUnsafe_4cfef 5 (some .int), Cond.methodLink RJ2 71 yJ2_getChar_3b067, Cond.static yJ2_getChar_3b067, Cond.code yJ2_getChar_3b067 cJ2_getChar_3b067 2 (some .char), Cond.fieldLink RJ2 44 "java/lang/StringUTF16" "$assertionsDisabled" "Z", Cond.fieldLink RJ2 59 "java/lang/StringUTF16" "HI_BYTE_SHIFT" "I", Cond.fieldLink RJ2 63 "java/lang/StringUTF16" "LO_BYTE_SHIFT" "I", Cond.methodLink RJ2 232 yJ2_indexOfSupplementary_4cfef, Cond.static yJ2_indexOfSupplementary_4cfef, Cond.code yJ2_indexOfSupplementary_4cfef cJ2_indexOfSupplementary_4cfef 7 (some .int)]
def wsL_law_r13 : List Cond := [Cond.methodLink RJ2 164 yJ11_isValidCodePoint_9a6ad, Cond.static yJ11_isValidCodePoint_9a6ad, Cond.initialized RJ11, Cond.code yJ11_isValidCodePoint_9a6ad cJ11_isValidCodePoint_9a6ad 2 (some .boolean), Cond.methodLink RJ2 157 yJ11_highSurrogate_5068e, Cond.static yJ11_highSurrogate_5068e, Cond.code yJ11_highSurrogate_5068e cJ11_highSurrogate_5068e 1 (some .char), Cond.constant RJ11 110 (55232), Cond.methodLink RJ2 161 yJ11_lowSurrogate_5068e, Cond.static yJ11_lowSurrogate_5068e, Cond.code yJ11_lowSurrogate_5068e cJ11_lowSurrogate_5068e 1 (some .char), Cond.constant RJ11 76 (56320), Cond.methodLink RL 26 yX12_fault, Cond.instanceMethod yX12_fault, Cond.selects RX12 yX12_fault yX12_fault, Cond.code yX12_fault cX12_fault 1 (some .int), Cond.methodLink RX12 146 yX12_read, Cond.instanceMethod yX12_read, Cond.selects RX12 yX12_read yX12_read, Cond.code yX12_read cX12_read 3 (some .int), Cond.fieldLink RX12 132 "ShameYardsModel" "isWhole" "Z", Cond.fieldLink RX12 136 "ShameYardsModel" "newPassages" "I", Cond.fieldLink RX12 126 "ShameYardsModel" "newPeople" "I", Cond.methodLink RX12 120 yX12_isFigure]
def wsL_law_r14 : List Cond := [Cond.instanceMethod yX12_isFigure, Cond.selects RX12 yX12_isFigure yX12_isFigure, Cond.code yX12_isFigure cX12_isFigure 4 (some .boolean), Cond.methodLink RX12 116 yX12_at, Cond.instanceMethod yX12_at, Cond.selects RX12 yX12_at yX12_at, Cond.code yX12_at cX12_at 2 (some .int), Cond.methodLink RX12 139 yX12_readPassage, Cond.instanceMethod yX12_readPassage, Cond.selects RX12 yX12_readPassage yX12_readPassage, Cond.code yX12_readPassage cX12_readPassage 3 (some .int), Cond.methodLink RX12 143 yX12_readPeople, Cond.instanceMethod yX12_readPeople, Cond.selects RX12 yX12_readPeople yX12_readPeople, Cond.code yX12_readPeople cX12_readPeople 4 (some .int), Cond.methodLink RX12 129 yX12_readPerson, Cond.instanceMethod yX12_readPerson, Cond.selects RX12 yX12_readPerson yX12_readPerson, Cond.code yX12_readPerson cX12_readPerson 2 (some .int), Cond.methodLink RX12 123 yX12_kindBy, Cond.static yX12_kindBy, Cond.code yX12_kindBy cX12_kindBy 1 (some .int), Cond.methodLink RL 27 yX11_ministry, Cond.instanceMethod yX11_ministry]
def wsL_law_r15 : List Cond := [Cond.selects RX11 yX11_ministry yX11_ministry, Cond.code yX11_ministry cX11_ministry 1 (some .int), Cond.fieldLink RX11 67 "ShameYards" "imageStands" "Z", Cond.fieldLink RX11 71 "ShameYards" "reads" "I", Cond.fieldLink RX11 74 "ShameYards$House" "peopleCount" "I", Cond.methodLink RX11 59 yX5_isWhole, Cond.instanceMethod yX5_isWhole, Cond.selects RX5 yX5_isWhole yX5_isWhole, Cond.code yX5_isWhole cX5_isWhole 2 (some .boolean), Cond.methodLink RX5 38 yX5_firstFault, Cond.methodLink RX11 63 yX2_settle, Cond.instanceMethod yX2_settle, Cond.selects RX2 yX2_settle yX2_settle, Cond.code yX2_settle cX2_settle 5 none, Cond.fieldLink RX2 77 "ShameYards$House" "roomCount" "I", Cond.methodLink RX2 81 Lib.Math.min.name, Cond.fieldLink RX2 87 "ShameYards$House" "passageCount" "I", Cond.fieldLink RX2 90 "ShameYards$Page" "size" "I", Cond.fieldLink RX2 93 "ShameYards$House" "peopleCount" "I", Cond.fieldLink RX2 99 "ShameYards$House" "walksTogether" "I", Cond.fieldLink RX2 102 "ShameYards$House" "seenCount" "I", Cond.methodLink RX2 67 yX5_border, Cond.methodLink RX2 73 yX5_digitAt, Cond.methodLink RX2 96 yX5_kindAt]
def wsL_law_r16 : List Cond := [Cond.methodLink RL 30 yX12_ministry, Cond.instanceMethod yX12_ministry, Cond.selects RX12 yX12_ministry yX12_ministry, Cond.code yX12_ministry cX12_ministry 3 (some .int), Cond.fieldLink RX12 150 "ShameYardsModel" "rooms" "I", Cond.fieldLink RX12 153 "ShameYardsModel" "passages" "I", Cond.fieldLink RX12 156 "ShameYardsModel" "people" "I", Cond.fieldLink RX12 159 "ShameYardsModel" "together" "I", Cond.fieldLink RX12 162 "ShameYardsModel" "ministries" "I", Cond.fieldLink RX12 165 "ShameYardsModel" "seen" "I", Cond.methodLink RL 31 yX11_person, Cond.instanceMethod yX11_person, Cond.selects RX11 yX11_person yX11_person, Cond.code yX11_person cX11_person 3 (some .int), Cond.methodLink RX11 77 yX2_hasPerson, Cond.instanceMethod yX2_hasPerson, Cond.selects RX2 yX2_hasPerson yX2_hasPerson, Cond.code yX2_hasPerson cX2_hasPerson 2 (some .boolean), Cond.methodLink RX11 81 yX11_tellPerson, Cond.instanceMethod yX11_tellPerson, Cond.selects RX11 yX11_tellPerson yX11_tellPerson, Cond.code yX11_tellPerson cX11_tellPerson 3 (some .int), Cond.fieldLink RX11 85 "ShameYards$House" "kinds" "[I", Cond.fieldLink RX11 89 "ShameYards$House" "deeds" "[I"]
def wsL_law_r17 : List Cond := [Cond.fieldLink RX11 92 "ShameYards$House" "lies" "[I", Cond.fieldLink RX11 95 "ShameYards$House" "places" "[I", Cond.fieldLink RX11 98 "ShameYards$House" "taken" "[I", Cond.methodLink RX11 101 yX7_possibleLies, Cond.static yX7_possibleLies, Cond.initialized RX7, Cond.code yX7_possibleLies cX7_possibleLies 4 (some .int), Cond.methodLink RX7 9 yX7_isAsSeen, Cond.static yX7_isAsSeen, Cond.code yX7_isAsSeen cX7_isAsSeen 4 (some .boolean), Cond.fieldLink RX7 15 "ShameYards$House" "seenCount" "I", Cond.fieldLink RX7 21 "ShameYards$House" "seenPerson" "[I", Cond.fieldLink RX7 25 "ShameYards$House" "seenSteps" "[I", Cond.fieldLink RX7 28 "ShameYards$House" "seenPassage" "[I", Cond.fieldLink RX7 31 "ShameYards$House" "seenWith" "[I", Cond.methodLink RX7 34 yX2_stepsWithLies, Cond.instanceMethod yX2_stepsWithLies, Cond.selects RX2 yX2_stepsWithLies yX2_stepsWithLies, Cond.code yX2_stepsWithLies cX2_stepsWithLies 7 (some .int), Cond.methodLink RX2 118 yX2_clerk, Cond.instanceMethod yX2_clerk, Cond.selects RX2 yX2_clerk yX2_clerk, Cond.code yX2_clerk cX2_clerk 2 (some (.object "ShameYards$Clerk")), Cond.methodLink RX2 122 ⟨"ShameYards$Clerk", "yards", "(III)I"⟩]
def wsL_law_r18 : List Cond := [Cond.sameMethod "ShameYards$Clerk" "ShameYards$Clerk" "yards" "(III)I", Cond.instanceMethod ⟨"ShameYards$Clerk", "yards", "(III)I"⟩, Cond.selects RX0 ⟨"ShameYards$Clerk", "yards", "(III)I"⟩ yX0_yards, Cond.instanceMethod yX0_yards, Cond.code yX0_yards cX0_yards 4 (some .int), Cond.methodLink RX0 7 yX1_yards, Cond.superclass RX0 RX1, Cond.instanceMethod yX1_yards, Cond.code yX1_yards cX1_yards 4 (some .int), Cond.methodLink RX2 122 yX1_yards, Cond.selects RX1 yX1_yards yX1_yards, Cond.selects RX3 ⟨"ShameYards$Clerk", "yards", "(III)I"⟩ yX3_yards, Cond.instanceMethod yX3_yards, Cond.code yX3_yards cX3_yards 4 (some .int), Cond.methodLink RX3 7 yX4_yards, Cond.sameMethod "ShameYards$Minister" "ShameYards$Minister" "yards" "(III)I", Cond.superclass RX3 RX4, Cond.instanceMethod yX4_yards, Cond.code yX4_yards cX4_yards 4 (some .int), Cond.selects RX4 ⟨"ShameYards$Clerk", "yards", "(III)I"⟩ yX4_yards, Cond.selects RX10 ⟨"ShameYards$Clerk", "yards", "(III)I"⟩ yX10_yards, Cond.instanceMethod yX10_yards, Cond.code yX10_yards cX10_yards 4 (some .int), Cond.methodLink RX10 7 yX1_yards]
def wsL_law_r19 : List Cond := [Cond.superclass RX10 RX1, Cond.methodLink RX11 107 yX7_bestQuestion, Cond.static yX7_bestQuestion, Cond.code yX7_bestQuestion cX7_bestQuestion 8 (some .int), Cond.fieldLink RX7 42 "ShameYards$House" "passageCount" "I", Cond.fieldLink RX7 45 "ShameYards$House" "peopleCount" "I", Cond.methodLink RX7 38 yX7_possibleLies, Cond.methodLink RX7 48 yX7_leftAtWorst, Cond.static yX7_leftAtWorst, Cond.code yX7_leftAtWorst cX7_leftAtWorst 10 (some .int), Cond.methodLink RX7 52 Lib.Math.max.name, Cond.methodLink RL 35 yX12_person, Cond.instanceMethod yX12_person, Cond.selects RX12 yX12_person yX12_person, Cond.code yX12_person cX12_person 3 (some .int), Cond.methodLink RX12 168 yX12_isPerson, Cond.instanceMethod yX12_isPerson, Cond.selects RX12 yX12_isPerson yX12_isPerson, Cond.code yX12_isPerson cX12_isPerson 2 (some .boolean), Cond.methodLink RX12 181 yX12_personNow, Cond.instanceMethod yX12_personNow, Cond.selects RX12 yX12_personNow yX12_personNow, Cond.code yX12_personNow cX12_personNow 3 (some .int), Cond.methodLink RX12 175 yX12_liesBits]
def wsL_law_r20 : List Cond := [Cond.instanceMethod yX12_liesBits, Cond.selects RX12 yX12_liesBits yX12_liesBits, Cond.code yX12_liesBits cX12_liesBits 6 (some .int), Cond.methodLink RX12 279 yX12_stepsWith, Cond.instanceMethod yX12_stepsWith, Cond.selects RX12 yX12_stepsWith yX12_stepsWith, Cond.code yX12_stepsWith cX12_stepsWith 7 (some .int), Cond.methodLink RX12 194 yX12_stepsOf, Cond.instanceMethod yX12_stepsOf, Cond.selects RX12 yX12_stepsOf yX12_stepsOf, Cond.code yX12_stepsOf cX12_stepsOf 4 (some .int), Cond.methodLink RX12 172 yX12_alone, Cond.instanceMethod yX12_alone, Cond.selects RX12 yX12_alone yX12_alone, Cond.code yX12_alone cX12_alone 5 (some .int), Cond.methodLink RX12 178 yX12_askOf, Cond.instanceMethod yX12_askOf, Cond.selects RX12 yX12_askOf yX12_askOf, Cond.code yX12_askOf cX12_askOf 8 (some .int), Cond.constant RX12 207 (268435456), Cond.methodLink RX12 282 yX12_worstBy, Cond.instanceMethod yX12_worstBy, Cond.selects RX12 yX12_worstBy yX12_worstBy, Cond.code yX12_worstBy cX12_worstBy 9 (some .int)]
def wsL_law_r21 : List Cond := [Cond.methodLink RX12 225 yX12_isIn, Cond.static yX12_isIn, Cond.code yX12_isIn cX12_isIn 2 (some .boolean), Cond.methodLink RL 36 yX11_as, Cond.instanceMethod yX11_as, Cond.selects RX11 yX11_as yX11_as, Cond.code yX11_as cX11_as 3 (some .int), Cond.methodLink RX11 110 yX2_clerk, Cond.methodLink RX11 114 yX11_isOfKind, Cond.static yX11_isOfKind, Cond.code yX11_isOfKind cX11_isOfKind 2 (some .boolean), Cond.classLink RX11 118 "ShameYards$Boy", Cond.classLink RX11 120 "ShameYards$Minister", Cond.classLink RX11 122 "ShameYards$Woman", Cond.classLink RX11 124 "ShameYards$Lamp", Cond.methodLink RL 39 yX12_as, Cond.instanceMethod yX12_as, Cond.selects RX12 yX12_as yX12_as, Cond.code yX12_as cX12_as 4 (some .int), Cond.methodLink RL 40 yX11_passage, Cond.instanceMethod yX11_passage, Cond.selects RX11 yX11_passage yX11_passage, Cond.code yX11_passage cX11_passage 3 (some .int), Cond.methodLink RX11 126 yX2_hasPassage]
def wsL_law_r22 : List Cond := [Cond.instanceMethod yX2_hasPassage, Cond.selects RX2 yX2_hasPassage yX2_hasPassage, Cond.code yX2_hasPassage cX2_hasPassage 2 (some .boolean), Cond.methodLink RX11 129 yX11_tellPassage, Cond.instanceMethod yX11_tellPassage, Cond.selects RX11 yX11_tellPassage yX11_tellPassage, Cond.code yX11_tellPassage cX11_tellPassage 3 (some .int), Cond.fieldLink RX11 132 "ShameYards$House" "oneEnd" "[I", Cond.fieldLink RX11 135 "ShameYards$House" "otherEnd" "[I", Cond.fieldLink RX11 138 "ShameYards$House" "lengths" "[I", Cond.methodLink RL 43 yX12_passage, Cond.instanceMethod yX12_passage, Cond.selects RX12 yX12_passage yX12_passage, Cond.code yX12_passage cX12_passage 3 (some .int), Cond.methodLink RX12 184 yX12_isPassage, Cond.instanceMethod yX12_isPassage, Cond.selects RX12 yX12_isPassage yX12_isPassage, Cond.code yX12_isPassage cX12_isPassage 2 (some .boolean), Cond.methodLink RX12 187 yX12_passageNow, Cond.instanceMethod yX12_passageNow, Cond.selects RX12 yX12_passageNow yX12_passageNow, Cond.code yX12_passageNow cX12_passageNow 3 (some .int), Cond.methodLink RL 44 yX11_steps, Cond.instanceMethod yX11_steps]
def wsL_law_r23 : List Cond := [Cond.selects RX11 yX11_steps yX11_steps, Cond.code yX11_steps cX11_steps 4 (some .int), Cond.methodLink RX11 141 yX2_knows, Cond.instanceMethod yX2_knows, Cond.selects RX2 yX2_knows yX2_knows, Cond.code yX2_knows cX2_knows 4 (some .boolean), Cond.methodLink RX2 111 yX2_hasPerson, Cond.methodLink RX2 115 yX2_hasPassage, Cond.methodLink RX11 145 yX2_stepsOf, Cond.instanceMethod yX2_stepsOf, Cond.selects RX2 yX2_stepsOf yX2_stepsOf, Cond.code yX2_stepsOf cX2_stepsOf 4 (some .int), Cond.methodLink RX2 126 yX2_stepsWithLies, Cond.methodLink RL 48 yX12_steps, Cond.instanceMethod yX12_steps, Cond.selects RX12 yX12_steps yX12_steps, Cond.code yX12_steps cX12_steps 5 (some .int), Cond.methodLink RX12 190 yX12_isWith, Cond.instanceMethod yX12_isWith, Cond.selects RX12 yX12_isWith yX12_isWith, Cond.code yX12_isWith cX12_isWith 3 (some .boolean), Cond.methodLink RL 49 yX11_go, Cond.instanceMethod yX11_go, Cond.selects RX11 yX11_go yX11_go]
def wsL_law_r24 : List Cond := [Cond.code yX11_go cX11_go 4 (some .int), Cond.methodLink RX11 149 yX2_mayLeaveBy, Cond.instanceMethod yX2_mayLeaveBy, Cond.selects RX2 yX2_mayLeaveBy yX2_mayLeaveBy, Cond.code yX2_mayLeaveBy cX2_mayLeaveBy 4 (some .boolean), Cond.methodLink RX2 130 yX2_endsAt, Cond.instanceMethod yX2_endsAt, Cond.selects RX2 yX2_endsAt yX2_endsAt, Cond.code yX2_endsAt cX2_endsAt 3 (some .boolean), Cond.methodLink RX11 152 yX2_walk, Cond.instanceMethod yX2_walk, Cond.selects RX2 yX2_walk yX2_walk, Cond.code yX2_walk cX2_walk 6 (some .int), Cond.methodLink RX2 134 yX2_stepsOf, Cond.methodLink RX2 137 yX2_across, Cond.instanceMethod yX2_across, Cond.selects RX2 yX2_across yX2_across, Cond.code yX2_across cX2_across 3 (some .int), Cond.methodLink RL 52 yX12_go, Cond.instanceMethod yX12_go, Cond.selects RX12 yX12_go yX12_go, Cond.code yX12_go cX12_go 6 (some .int), Cond.methodLink RX12 198 yX12_endsAt, Cond.instanceMethod yX12_endsAt]
def wsL_law_r25 : List Cond := [Cond.selects RX12 yX12_endsAt yX12_endsAt, Cond.code yX12_endsAt cX12_endsAt 3 (some .boolean), Cond.methodLink RX12 201 yX12_isTired, Cond.instanceMethod yX12_isTired, Cond.selects RX12 yX12_isTired yX12_isTired, Cond.code yX12_isTired cX12_isTired 2 (some .boolean), Cond.methodLink RX12 204 yX12_beyond, Cond.instanceMethod yX12_beyond, Cond.selects RX12 yX12_beyond yX12_beyond, Cond.code yX12_beyond cX12_beyond 3 (some .int), Cond.methodLink RL 53 yX11_sin, Cond.instanceMethod yX11_sin, Cond.selects RX11 yX11_sin yX11_sin, Cond.code yX11_sin cX11_sin 2 (some .int), Cond.methodLink RL 56 yX12_sin, Cond.instanceMethod yX12_sin, Cond.selects RX12 yX12_sin yX12_sin, Cond.code yX12_sin cX12_sin 2 (some .int), Cond.methodLink RL 57 yX11_lie, Cond.instanceMethod yX11_lie, Cond.selects RX11 yX11_lie yX11_lie, Cond.code yX11_lie cX11_lie 2 (some .int), Cond.methodLink RL 60 yX12_lie, Cond.instanceMethod yX12_lie]
def wsL_law_r26 : List Cond := [Cond.selects RX12 yX12_lie yX12_lie, Cond.code yX12_lie cX12_lie 2 (some .int), Cond.methodLink RL 61 yX11_confess, Cond.instanceMethod yX11_confess, Cond.selects RX11 yX11_confess yX11_confess, Cond.code yX11_confess cX11_confess 2 (some .int), Cond.methodLink RL 64 yX12_confess, Cond.instanceMethod yX12_confess, Cond.selects RX12 yX12_confess yX12_confess, Cond.code yX12_confess cX12_confess 2 (some .int), Cond.methodLink RL 65 yX11_carpet, Cond.instanceMethod yX11_carpet, Cond.selects RX11 yX11_carpet yX11_carpet, Cond.code yX11_carpet cX11_carpet 4 (some .int), Cond.methodLink RL 68 yX12_carpet, Cond.instanceMethod yX12_carpet, Cond.selects RX12 yX12_carpet yX12_carpet, Cond.code yX12_carpet cX12_carpet 4 (some .int), Cond.methodLink RL 69 yX11_far, Cond.instanceMethod yX11_far, Cond.selects RX11 yX11_far yX11_far, Cond.code yX11_far cX11_far 5 (some .int), Cond.methodLink RX11 155 yX2_hasRoom, Cond.instanceMethod yX2_hasRoom]
def wsL_law_r27 : List Cond := [Cond.selects RX2 yX2_hasRoom yX2_hasRoom, Cond.code yX2_hasRoom cX2_hasRoom 2 (some .boolean), Cond.methodLink RX11 158 yX9_measure, Cond.instanceMethod yX9_measure, Cond.selects RX9 yX9_measure yX9_measure, Cond.code yX9_measure cX9_measure 6 none, Cond.fieldLink RX9 34 "ShameYards$House" "passageCount" "I", Cond.fieldLink RX9 49 "ShameYards$House" "roomCount" "I", Cond.fieldLink RX9 52 "ShameYards$House" "oneEnd" "[I", Cond.fieldLink RX9 55 "ShameYards$House" "otherEnd" "[I", Cond.methodLink RX9 39 yX2_aloneSteps, Cond.instanceMethod yX2_aloneSteps, Cond.selects RX2 yX2_aloneSteps yX2_aloneSteps, Cond.code yX2_aloneSteps cX2_aloneSteps 3 (some .int), Cond.methodLink RX9 43 yJ7_fill_53178, Cond.static yJ7_fill_53178, Cond.initialized RJ7, Cond.code yJ7_fill_53178 cJ7_fill_53178 4 none, Cond.methodLink RX9 58 yX9_shorten, Cond.instanceMethod yX9_shorten, Cond.selects RX9 yX9_shorten yX9_shorten, Cond.code yX9_shorten cX9_shorten 4 none, Cond.methodLink RX9 62 Lib.Math.min.name, Cond.methodLink RX11 162 yX9_stepsFrom]
def wsL_law_r28 : List Cond := [Cond.instanceMethod yX9_stepsFrom, Cond.selects RX9 yX9_stepsFrom yX9_stepsFrom, Cond.code yX9_stepsFrom cX9_stepsFrom 2 (some .int), Cond.methodLink RX11 166 yX9_legFrom, Cond.instanceMethod yX9_legFrom, Cond.selects RX9 yX9_legFrom yX9_legFrom, Cond.code yX9_legFrom cX9_legFrom 7 (some .int), Cond.methodLink RX9 67 yX9_nextLeg, Cond.instanceMethod yX9_nextLeg, Cond.selects RX9 yX9_nextLeg yX9_nextLeg, Cond.code yX9_nextLeg cX9_nextLeg 4 (some .int), Cond.methodLink RX9 74 yX2_endsAt, Cond.methodLink RX9 71 yX2_across, Cond.methodLink RL 73 yX12_far, Cond.instanceMethod yX12_far, Cond.selects RX12 yX12_far yX12_far, Cond.code yX12_far cX12_far 5 (some .int), Cond.methodLink RX12 218 yX12_isRoom, Cond.instanceMethod yX12_isRoom, Cond.selects RX12 yX12_isRoom yX12_isRoom, Cond.code yX12_isRoom cX12_isRoom 2 (some .boolean), Cond.methodLink RX12 221 yX12_farNow, Cond.instanceMethod yX12_farNow, Cond.selects RX12 yX12_farNow yX12_farNow]
def wsL_law_r29 : List Cond := [Cond.code yX12_farNow cX12_farNow 9 (some .int), Cond.methodLink RX12 212 yX12_farFrom, Cond.instanceMethod yX12_farFrom, Cond.selects RX12 yX12_farFrom yX12_farFrom, Cond.code yX12_farFrom cX12_farFrom 4 (some .int), Cond.methodLink RX12 208 yX12_layFar, Cond.instanceMethod yX12_layFar, Cond.selects RX12 yX12_layFar yX12_layFar, Cond.code yX12_layFar cX12_layFar 8 none, Cond.methodLink RX12 215 yX12_nextPassage, Cond.instanceMethod yX12_nextPassage, Cond.selects RX12 yX12_nextPassage yX12_nextPassage, Cond.code yX12_nextPassage cX12_nextPassage 4 (some .int), Cond.methodLink RL 74 yX11_send, Cond.instanceMethod yX11_send, Cond.selects RX11 yX11_send yX11_send, Cond.code yX11_send cX11_send 2 (some .int), Cond.fieldLink RX11 173 "ShameYards" "sends" "I", Cond.methodLink RX11 170 yX2_isThere, Cond.instanceMethod yX2_isThere, Cond.selects RX2 yX2_isThere yX2_isThere, Cond.code yX2_isThere cX2_isThere 1 (some .boolean), Cond.methodLink RX11 176 yX9_assign, Cond.instanceMethod yX9_assign]
def wsL_law_r30 : List Cond := [Cond.selects RX9 yX9_assign yX9_assign, Cond.code yX9_assign cX9_assign 3 none, Cond.fieldLink RX9 78 "ShameYards$House" "peopleCount" "I", Cond.fieldLink RX9 81 "ShameYards$House" "places" "[I", Cond.methodLink RX9 88 arraycopyName, Cond.native arraycopyName, Cond.static arraycopyName, Cond.initialized "java/lang/System", Cond.methodLink RX9 84 yX9_measure, Cond.methodLink RX9 94 yX9_assignFrom, Cond.static yX9_assignFrom, Cond.code yX9_assignFrom cX9_assignFrom 6 none, Cond.methodLink RX11 180 yX9_assignedSteps, Cond.instanceMethod yX9_assignedSteps, Cond.selects RX9 yX9_assignedSteps yX9_assignedSteps, Cond.code yX9_assignedSteps cX9_assignedSteps 1 (some .int), Cond.methodLink RX11 183 yX9_assignedTo, Cond.instanceMethod yX9_assignedTo, Cond.selects RX9 yX9_assignedTo yX9_assignedTo, Cond.code yX9_assignedTo cX9_assignedTo 3 (some .int), Cond.methodLink RX9 98 yX2_hasRoom, Cond.methodLink RL 77 yX12_send, Cond.instanceMethod yX12_send, Cond.selects RX12 yX12_send yX12_send]
def wsL_law_r31 : List Cond := [Cond.code yX12_send cX12_send 2 (some .int), Cond.fieldLink RX12 235 "ShameYardsModel" "asks" "I", Cond.methodLink RX12 238 yX12_sendNow, Cond.instanceMethod yX12_sendNow, Cond.selects RX12 yX12_sendNow yX12_sendNow, Cond.code yX12_sendNow cX12_sendNow 6 (some .int), Cond.methodLink RX12 228 yX12_sentSteps, Cond.instanceMethod yX12_sentSteps, Cond.selects RX12 yX12_sentSteps yX12_sentSteps, Cond.code yX12_sentSteps cX12_sentSteps 5 (some .int), Cond.methodLink RX12 231 yX12_nextSent, Cond.instanceMethod yX12_nextSent, Cond.selects RX12 yX12_nextSent yX12_nextSent, Cond.code yX12_nextSent cX12_nextSent 2 (some .boolean), Cond.methodLink RL 78 yX11_pairs, Cond.instanceMethod yX11_pairs, Cond.selects RX11 yX11_pairs yX11_pairs, Cond.code yX11_pairs cX11_pairs 3 (some .int), Cond.fieldLink RX11 190 "ShameYards$Pairing" "leastMost" "I", Cond.methodLink RX11 186 yX6_arrange, Cond.instanceMethod yX6_arrange, Cond.selects RX6 yX6_arrange yX6_arrange, Cond.code yX6_arrange cX6_arrange 5 none, Cond.fieldLink RX6 23 "ShameYards$House" "peopleCount" "I"]
def wsL_law_r32 : List Cond := [Cond.fieldLink RX6 29 "ShameYards$Pairing" "people" "I", Cond.constant RX6 40 (1000000), Cond.fieldLink RX6 41 "ShameYards$Pairing" "leastMost" "I", Cond.fieldLink RX6 44 "ShameYards$Pairing" "leastPairs" "I", Cond.methodLink RX6 32 yX2_aloneSteps, Cond.methodLink RX6 36 yX2_stepsOf, Cond.methodLink RX6 47 yX6_arrangeFrom, Cond.static yX6_arrangeFrom, Cond.code yX6_arrangeFrom cX6_arrangeFrom 6 none, Cond.methodLink RX6 59 Lib.Math.max.name, Cond.methodLink RX6 51 yX6_isBetter, Cond.instanceMethod yX6_isBetter, Cond.selects RX6 yX6_isBetter yX6_isBetter, Cond.code yX6_isBetter cX6_isBetter 3 (some .boolean), Cond.methodLink RX6 55 yX6_keep, Cond.instanceMethod yX6_keep, Cond.selects RX6 yX6_keep yX6_keep, Cond.code yX6_keep cX6_keep 3 none, Cond.methodLink RX6 64 arraycopyName, Cond.methodLink RX11 193 yX6_partnerOf, Cond.instanceMethod yX6_partnerOf, Cond.selects RX6 yX6_partnerOf yX6_partnerOf, Cond.code yX6_partnerOf cX6_partnerOf 3 (some .int), Cond.methodLink RX6 70 yX2_hasPerson]
def wsL_law_r33 : List Cond := [Cond.methodLink RL 81 yX12_pairs, Cond.instanceMethod yX12_pairs, Cond.selects RX12 yX12_pairs yX12_pairs, Cond.code yX12_pairs cX12_pairs 3 (some .int), Cond.methodLink RX12 253 yX12_pairsNow, Cond.instanceMethod yX12_pairsNow, Cond.selects RX12 yX12_pairsNow yX12_pairsNow, Cond.code yX12_pairsNow cX12_pairsNow 9 (some .int), Cond.methodLink RX12 241 yX12_arePairs, Cond.instanceMethod yX12_arePairs, Cond.selects RX12 yX12_arePairs yX12_arePairs, Cond.code yX12_arePairs cX12_arePairs 4 (some .boolean), Cond.methodLink RX12 244 yX12_mostSteps, Cond.instanceMethod yX12_mostSteps, Cond.selects RX12 yX12_mostSteps yX12_mostSteps, Cond.code yX12_mostSteps cX12_mostSteps 5 (some .int), Cond.methodLink RX12 247 yX12_goTogether, Cond.instanceMethod yX12_goTogether, Cond.selects RX12 yX12_goTogether yX12_goTogether, Cond.code yX12_goTogether cX12_goTogether 3 (some .int), Cond.methodLink RX12 250 yX12_nextMates, Cond.instanceMethod yX12_nextMates, Cond.selects RX12 yX12_nextMates yX12_nextMates, Cond.code yX12_nextMates cX12_nextMates 2 (some .boolean)]
def wsL_law_r34 : List Cond := [Cond.methodLink RL 82 yX11_meet, Cond.instanceMethod yX11_meet, Cond.selects RX11 yX11_meet yX11_meet, Cond.code yX11_meet cX11_meet 5 (some .long), Cond.constantLong RX11 196 (-101), Cond.constantLong RX11 198 (-102), Cond.fieldLink RX11 204 "ShameYards$Wander" "above" "J", Cond.fieldLink RX11 208 "ShameYards$Wander" "below" "J", Cond.methodLink RX11 200 yX8_compare, Cond.instanceMethod yX8_compare, Cond.selects RX8 yX8_compare yX8_compare, Cond.code yX8_compare cX8_compare 7 none, Cond.fieldLink RX8 32 "ShameYards$House" "places" "[I", Cond.fieldLink RX8 40 "ShameYards$Wander" "above" "J", Cond.fieldLink RX8 43 "ShameYards$House" "roomCount" "I", Cond.constantLong RX8 47 (176400), Cond.methodLink RX8 36 yX8_spread, Cond.instanceMethod yX8_spread, Cond.selects RX8 yX8_spread yX8_spread, Cond.code yX8_spread cX8_spread 7 none, Cond.methodLink RX8 63 arraycopyName, Cond.methodLink RX8 53 yJ7_fill_d0a16, Cond.static yJ7_fill_d0a16, Cond.code yJ7_fill_d0a16 cJ7_fill_d0a16 5 none]
def wsL_law_r35 : List Cond := [Cond.methodLink RX8 59 yX8_shareOut, Cond.instanceMethod yX8_shareOut, Cond.selects RX8 yX8_shareOut yX8_shareOut, Cond.code yX8_shareOut cX8_shareOut 9 none, Cond.constantLong RX8 73 (420), Cond.fieldLink RX8 75 "ShameYards$House" "passageCount" "I", Cond.methodLink RX8 69 yX2_doorsOf, Cond.instanceMethod yX2_doorsOf, Cond.selects RX2 yX2_doorsOf yX2_doorsOf, Cond.code yX2_doorsOf cX2_doorsOf 4 (some .int), Cond.methodLink RX8 78 yX2_endsAt, Cond.methodLink RX8 82 yX2_across, Cond.methodLink RX8 49 yX8_commonDivisor, Cond.static yX8_commonDivisor, Cond.code yX8_commonDivisor cX8_commonDivisor 11 (some .long), Cond.methodLink RL 86 yX12_meet, Cond.instanceMethod yX12_meet, Cond.selects RX12 yX12_meet yX12_meet, Cond.code yX12_meet cX12_meet 5 (some .long), Cond.constantLong RX12 271 (-101), Cond.constantLong RX12 277 (-102), Cond.methodLink RX12 273 yX12_meetNow, Cond.instanceMethod yX12_meetNow, Cond.selects RX12 yX12_meetNow yX12_meetNow]
def wsL_law_r36 : List Cond := [Cond.code yX12_meetNow cX12_meetNow 11 (some .long), Cond.constantLong RX12 265 (176400), Cond.methodLink RX12 261 yX12_turn, Cond.instanceMethod yX12_turn, Cond.selects RX12 yX12_turn yX12_turn, Cond.code yX12_turn cX12_turn 5 none, Cond.constantLong RX12 259 (420), Cond.methodLink RX12 256 yX12_ending, Cond.instanceMethod yX12_ending, Cond.selects RX12 yX12_ending yX12_ending, Cond.code yX12_ending cX12_ending 4 (some .int), Cond.methodLink RX12 267 yX12_divisor, Cond.static yX12_divisor, Cond.code yX12_divisor cX12_divisor 10 (some .long), Cond.methodLink RL 87 yX11_see, Cond.instanceMethod yX11_see, Cond.selects RX11 yX11_see yX11_see, Cond.code yX11_see cX11_see 5 (some .int), Cond.fieldLink RX11 211 "ShameYards$House" "seenCount" "I", Cond.methodLink RX11 214 yX2_note, Cond.instanceMethod yX2_note, Cond.selects RX2 yX2_note yX2_note, Cond.code yX2_note cX2_note 5 none, Cond.methodLink RL 90 yX12_see]
def wsL_law_r37 : List Cond := [Cond.instanceMethod yX12_see, Cond.selects RX12 yX12_see yX12_see, Cond.code yX12_see cX12_see 5 (some .int), Cond.methodLink RL 91 yX11_forget, Cond.instanceMethod yX11_forget, Cond.selects RX11 yX11_forget yX11_forget, Cond.code yX11_forget cX11_forget 2 (some .int), Cond.methodLink RL 94 yX12_forget, Cond.instanceMethod yX12_forget, Cond.selects RX12 yX12_forget yX12_forget, Cond.code yX12_forget cX12_forget 2 (some .int), Cond.methodLink RL 95 yX11_days, Cond.instanceMethod yX11_days, Cond.selects RX11 yX11_days yX11_days, Cond.code yX11_days cX11_days 4 (some .int), Cond.fieldLink RX11 221 "ShameYards$Wander" "dreamtSteps" "I", Cond.fieldLink RX11 227 "ShameYards$Wander" "seed" "I", Cond.methodLink RX11 218 yX8_dream, Cond.instanceMethod yX8_dream, Cond.selects RX8 yX8_dream yX8_dream, Cond.code yX8_dream cX8_dream 5 none, Cond.fieldLink RX8 90 "ShameYards$Wander" "seed" "I", Cond.fieldLink RX8 93 "ShameYards$Wander" "dreamtSteps" "I", Cond.methodLink RX8 86 yX2_copyFrom]
def wsL_law_r38 : List Cond := [Cond.instanceMethod yX2_copyFrom, Cond.selects RX2 yX2_copyFrom yX2_copyFrom, Cond.code yX2_copyFrom cX2_copyFrom 2 none, Cond.methodLink RX2 105 arraycopyName, Cond.methodLink RX8 96 yX8_dreamOfOne, Cond.instanceMethod yX8_dreamOfOne, Cond.selects RX8 yX8_dreamOfOne yX8_dreamOfOne, Cond.code yX8_dreamOfOne cX8_dreamOfOne 5 none, Cond.fieldLink RX8 99 "ShameYards$House" "peopleCount" "I", Cond.fieldLink RX8 112 "ShameYards$House" "lies" "[I", Cond.methodLink RX8 102 yX8_draw, Cond.instanceMethod yX8_draw, Cond.selects RX8 yX8_draw yX8_draw, Cond.code yX8_draw cX8_draw 2 (some .int), Cond.constantLong RX8 115 (1103515245), Cond.constantLong RX8 117 (12345), Cond.constantLong RX8 119 (2147483647), Cond.constant RX8 121 (65536), Cond.methodLink RX8 105 yX2_doorOf, Cond.instanceMethod yX2_doorOf, Cond.selects RX2 yX2_doorOf yX2_doorOf, Cond.code yX2_doorOf cX2_doorOf 5 (some .int), Cond.methodLink RX8 108 yX2_walk, Cond.methodLink RX11 224 yX8_dreamtInRoomZero]
def wsL_law_r39 : List Cond := [Cond.instanceMethod yX8_dreamtInRoomZero, Cond.selects RX8 yX8_dreamtInRoomZero yX8_dreamtInRoomZero, Cond.code yX8_dreamtInRoomZero cX8_dreamtInRoomZero 1 (some .int), Cond.methodLink RX8 122 yX2_peopleInRoomZero, Cond.instanceMethod yX2_peopleInRoomZero, Cond.selects RX2 yX2_peopleInRoomZero yX2_peopleInRoomZero, Cond.code yX2_peopleInRoomZero cX2_peopleInRoomZero 3 (some .int), Cond.methodLink RL 98 yX12_days, Cond.instanceMethod yX12_days, Cond.selects RX12 yX12_days yX12_days, Cond.code yX12_days cX12_days 4 (some .int), Cond.methodLink RX12 306 yX12_daysNow, Cond.instanceMethod yX12_daysNow, Cond.selects RX12 yX12_daysNow yX12_daysNow, Cond.code yX12_daysNow cX12_daysNow 9 (some .int), Cond.fieldLink RX12 287 "ShameYardsModel" "seedNow" "J", Cond.methodLink RX12 297 yX12_draw, Cond.instanceMethod yX12_draw, Cond.selects RX12 yX12_draw yX12_draw, Cond.code yX12_draw cX12_draw 2 (some .int), Cond.constantLong RX12 285 (1103515245), Cond.constantLong RX12 291 (12345), Cond.constantLong RX12 293 (2147483647), Cond.constantLong RX12 295 (65536)]
def wsL_law_r40 : List Cond := [Cond.methodLink RX12 300 yX12_passageAt, Cond.instanceMethod yX12_passageAt, Cond.selects RX12 yX12_passageAt yX12_passageAt, Cond.code yX12_passageAt cX12_passageAt 5 (some .int), Cond.methodLink RX12 303 yX12_inRoom, Cond.instanceMethod yX12_inRoom, Cond.selects RX12 yX12_inRoom yX12_inRoom, Cond.code yX12_inRoom cX12_inRoom 4 (some .int), Cond.methodLink RL 99 yX11_image, Cond.instanceMethod yX11_image, Cond.selects RX11 yX11_image yX11_image, Cond.code yX11_image cX11_image 1 (some .int), Cond.methodLink RX11 230 yX2_copyFrom, Cond.methodLink RX11 233 yX2_sumOfPeople, Cond.instanceMethod yX2_sumOfPeople, Cond.selects RX2 yX2_sumOfPeople yX2_sumOfPeople, Cond.code yX2_sumOfPeople cX2_sumOfPeople 4 (some .int), Cond.methodLink RL 102 yX12_image, Cond.instanceMethod yX12_image, Cond.selects RX12 yX12_image yX12_image, Cond.code yX12_image cX12_image 2 (some .int), Cond.fieldLink RX12 309 "ShameYardsModel" "isKept" "Z", Cond.fieldLink RX12 312 "ShameYardsModel" "keptMinistry" "I", Cond.fieldLink RX12 315 "ShameYardsModel" "keptTogether" "I"]
def wsL_law_r41 : List Cond := [Cond.fieldLink RX12 318 "ShameYardsModel" "keptSeen" "I", Cond.methodLink RX12 321 yX12_tookAll, Cond.instanceMethod yX12_tookAll, Cond.selects RX12 yX12_tookAll yX12_tookAll, Cond.code yX12_tookAll cX12_tookAll 3 (some .int), Cond.methodLink RL 103 yX11_restore, Cond.instanceMethod yX11_restore, Cond.selects RX11 yX11_restore yX11_restore, Cond.code yX11_restore cX11_restore 1 (some .int), Cond.methodLink RL 106 yX12_restore, Cond.instanceMethod yX12_restore, Cond.selects RX12 yX12_restore yX12_restore, Cond.code yX12_restore cX12_restore 2 (some .int), Cond.methodLink RL 107 yX11_count, Cond.instanceMethod yX11_count, Cond.selects RX11 yX11_count yX11_count, Cond.code yX11_count cX11_count 2 (some .int), Cond.fieldLink RX11 237 "ShameYards$House" "roomCount" "I", Cond.fieldLink RX11 240 "ShameYards$House" "passageCount" "I", Cond.fieldLink RX11 243 "ShameYards$House" "walksTogether" "I", Cond.methodLink RX11 246 yX2_peopleInRoomZero, Cond.methodLink RL 110 yX12_count, Cond.instanceMethod yX12_count, Cond.selects RX12 yX12_count yX12_count]
def wsL_law_r42 : List Cond := [Cond.code yX12_count cX12_count 2 (some .int), Cond.methodLink RX12 328 yX12_howMany, Cond.instanceMethod yX12_howMany, Cond.selects RX12 yX12_howMany yX12_howMany, Cond.code yX12_howMany cX12_howMany 2 (some .int), Cond.methodLink RX12 324 yX12_sumOf, Cond.instanceMethod yX12_sumOf, Cond.selects RX12 yX12_sumOf yX12_sumOf, Cond.code yX12_sumOf cX12_sumOf 4 (some .int), Cond.methodLink RL 111 yX11_digest, Cond.instanceMethod yX11_digest, Cond.selects RX11 yX11_digest yX11_digest, Cond.code yX11_digest cX11_digest 5 (some .long), Cond.constantLong RX11 249 (1193), Cond.methodLink RX11 251 yX11_mix, Cond.static yX11_mix, Cond.code yX11_mix cX11_mix 4 (some .long), Cond.constantLong RX11 268 (31), Cond.methodLink RX11 255 yX11_mixWays, Cond.instanceMethod yX11_mixWays, Cond.selects RX11 yX11_mixWays yX11_mixWays, Cond.code yX11_mixWays cX11_mixWays 8 (some .long), Cond.methodLink RX11 259 yX11_mixPassage, Cond.instanceMethod yX11_mixPassage]
def wsL_law_r43 : List Cond := [Cond.selects RX11 yX11_mixPassage yX11_mixPassage, Cond.code yX11_mixPassage cX11_mixPassage 7 (some .long), Cond.methodLink RX11 262 yX5_codeAt, Cond.methodLink RX11 265 yX11_count, Cond.methodLink RL 115 yX12_digest, Cond.instanceMethod yX12_digest, Cond.selects RX12 yX12_digest yX12_digest, Cond.code yX12_digest cX12_digest 3 (some .long), Cond.constantLong RX12 340 (1193), Cond.fieldLink RX12 333 "ShameYardsModel" "h" "J", Cond.methodLink RX12 342 yX12_mixPerson, Cond.instanceMethod yX12_mixPerson, Cond.selects RX12 yX12_mixPerson yX12_mixPerson, Cond.code yX12_mixPerson cX12_mixPerson 3 none, Cond.methodLink RX12 336 yX12_mix, Cond.instanceMethod yX12_mix, Cond.selects RX12 yX12_mix yX12_mix, Cond.code yX12_mix cX12_mix 3 none, Cond.constantLong RX12 331 (31)]
def wsL_law : List Cond := (wsL_law_r1 ++ (wsL_law_r2 ++ (wsL_law_r3 ++ (wsL_law_r4 ++ (wsL_law_r5 ++ (wsL_law_r6 ++ (wsL_law_r7 ++ (wsL_law_r8 ++ (wsL_law_r9 ++ (wsL_law_r10 ++ (wsL_law_r11 ++ (wsL_law_r12 ++ (wsL_law_r13 ++ (wsL_law_r14 ++ (wsL_law_r15 ++ (wsL_law_r16 ++ (wsL_law_r17 ++ (wsL_law_r18 ++ (wsL_law_r19 ++ (wsL_law_r20 ++ (wsL_law_r21 ++ (wsL_law_r22 ++ (wsL_law_r23 ++ (wsL_law_r24 ++ (wsL_law_r25 ++ (wsL_law_r26 ++ (wsL_law_r27 ++ (wsL_law_r28 ++ (wsL_law_r29 ++ (wsL_law_r30 ++ (wsL_law_r31 ++ (wsL_law_r32 ++ (wsL_law_r33 ++ (wsL_law_r34 ++ (wsL_law_r35 ++ (wsL_law_r36 ++ (wsL_law_r37 ++ (wsL_law_r38 ++ (wsL_law_r39 ++ (wsL_law_r40 ++ (wsL_law_r41 ++ (wsL_law_r42 ++ wsL_law_r43)))))))))))))))))))))))))))))))))))))))))) ++ wsX110 ++ wsX120 ++ wsX50 ++ wsX20 ++ wsX90 ++ wsX60 ++ wsX80 ++ wsX10 ++ wsX00 ++ wsX40 ++ wsX100 ++ wsX30 ++ ([] : List Cond)
abbrev vwCl : List vw_C := [(RX0, TX0, 0), (RX1, TX1, 0), (RX2, TX2, 18), (RX3, TX3, 0), (RX4, TX4, 0), (RX5, TX5, 2), (RX6, TX6, 6), (RX8, TX8, 8), (RX9, TX9, 6), (RX10, TX10, 0), (RX11, TX11, 9), (RX12, TX12, 49)]
end
section
set_option maxRecDepth 20000 in
theorem ggX0_init_X1_init : GoodIn wsX0_init wsX1_init := goodIn_r _ [3, 4, 5, 6] (by decide +kernel) (by decide +kernel)
set_option maxRecDepth 20000 in
theorem gX0_init_X1_init_n1 : GoodIn wsX0_init (wsX1_init) := ggX0_init_X1_init
theorem dX0_init_0 : decode cX0_init 0 = .ok (.aload_n 0, 1) := by decide +kernel
theorem dX0_init_1 : decode cX0_init 1 = .ok (.invokespecial 1, 3) := by decide +kernel
theorem dX0_init_4 : decode cX0_init 4 = .ok (.return_, 1) := by decide +kernel
set_option maxRecDepth 20000 in
theorem ggX0_yards_X1_yards : GoodIn wsX0_yards wsX1_yards := goodIn_r _ [6] (by decide +kernel) (by decide +kernel)
set_option maxRecDepth 20000 in
theorem gX0_yards_X1_yards_s7 : GoodIn wsX0_yards (va_wsSU RX0 7 yX1_yards wsX1_yards) := goodIn_app (goodIn_of _ (by decide +kernel)) ggX0_yards_X1_yards
theorem dX0_yards_0 : decode cX0_yards 0 = .ok (.aload_n 0, 1) := by decide +kernel
theorem dX0_yards_1 : decode cX0_yards 1 = .ok (.iload_n 1, 1) := by decide +kernel
theorem dX0_yards_2 : decode cX0_yards 2 = .ok (.iload_n 2, 1) := by decide +kernel
theorem dX0_yards_3 : decode cX0_yards 3 = .ok (.iload_n 3, 1) := by decide +kernel
theorem dX0_yards_4 : decode cX0_yards 4 = .ok (.invokespecial 7, 3) := by decide +kernel
theorem dX0_yards_7 : decode cX0_yards 7 = .ok (.iconst 1, 1) := by decide +kernel
theorem dX0_yards_8 : decode cX0_yards 8 = .ok (.iadd, 1) := by decide +kernel
theorem dX0_yards_9 : decode cX0_yards 9 = .ok (.iconst 2, 1) := by decide +kernel
theorem dX0_yards_10 : decode cX0_yards 10 = .ok (.idiv, 1) := by decide +kernel
theorem dX0_yards_11 : decode cX0_yards 11 = .ok (.ireturn, 1) := by decide +kernel
theorem dX1_init_0 : decode cX1_init 0 = .ok (.aload_n 0, 1) := by decide +kernel
theorem dX1_init_1 : decode cX1_init 1 = .ok (.invokespecial 1, 3) := by decide +kernel
theorem dX1_init_4 : decode cX1_init 4 = .ok (.return_, 1) := by decide +kernel
theorem dX1_yards_0 : decode cX1_yards 0 = .ok (.iload_n 1, 1) := by decide +kernel
theorem dX1_yards_1 : decode cX1_yards 1 = .ok (.iload_n 2, 1) := by decide +kernel
theorem dX1_yards_2 : decode cX1_yards 2 = .ok (.iadd, 1) := by decide +kernel
theorem dX1_yards_3 : decode cX1_yards 3 = .ok (.iconst 2, 1) := by decide +kernel
theorem dX1_yards_4 : decode cX1_yards 4 = .ok (.iload_n 3, 1) := by decide +kernel
theorem dX1_yards_5 : decode cX1_yards 5 = .ok (.imul, 1) := by decide +kernel
theorem dX1_yards_6 : decode cX1_yards 6 = .ok (.iadd, 1) := by decide +kernel
theorem dX1_yards_7 : decode cX1_yards 7 = .ok (.ireturn, 1) := by decide +kernel
set_option maxRecDepth 20000 in
theorem ggX2_init_X1_init : GoodIn wsX2_init wsX1_init := goodIn_r _ [34, 35, 2, 3] (by decide +kernel) (by decide +kernel)
set_option maxRecDepth 20000 in
theorem gX2_init_X1_init_n11 : GoodIn wsX2_init (wsX1_init) := ggX2_init_X1_init
set_option maxRecDepth 20000 in
theorem ggX2_init_X0_init : GoodIn wsX2_init wsX0_init := goodIn_r _ [37, 33, 6, 34, 35, 2, 3] (by decide +kernel) (by decide +kernel)
set_option maxRecDepth 20000 in
theorem gX2_init_X0_init_n14 : GoodIn wsX2_init (wsX0_init) := ggX2_init_X0_init
set_option maxRecDepth 20000 in
theorem ggX2_init_X4_init : GoodIn wsX2_init wsX4_init := goodIn_r _ [39, 33, 6, 34, 35, 2, 3] (by decide +kernel) (by decide +kernel)
set_option maxRecDepth 20000 in
theorem gX2_init_X4_init_n17 : GoodIn wsX2_init (wsX4_init) := ggX2_init_X4_init
set_option maxRecDepth 20000 in
theorem ggX2_init_X10_init : GoodIn wsX2_init wsX10_init := goodIn_r _ [41, 33, 6, 34, 35, 2, 3] (by decide +kernel) (by decide +kernel)
set_option maxRecDepth 20000 in
theorem gX2_init_X10_init_n20 : GoodIn wsX2_init (wsX10_init) := ggX2_init_X10_init
set_option maxRecDepth 20000 in
theorem ggX2_init_X3_init : GoodIn wsX2_init wsX3_init := goodIn_r _ [43, 38, 12, 39, 33, 6, 34, 35, 2, 3] (by decide +kernel) (by decide +kernel)
set_option maxRecDepth 20000 in
theorem gX2_init_X3_init_n23 : GoodIn wsX2_init (wsX3_init) := ggX2_init_X3_init
theorem dX2_init_0 : decode cX2_init 0 = .ok (.aload_n 0, 1) := by decide +kernel
theorem dX2_init_1 : decode cX2_init 1 = .ok (.invokespecial 3, 3) := by decide +kernel
theorem dX2_init_4 : decode cX2_init 4 = .ok (.aload_n 0, 1) := by decide +kernel
theorem dX2_init_5 : decode cX2_init 5 = .ok (.iconst 5, 1) := by decide +kernel
theorem dX2_init_6 : decode cX2_init 6 = .ok (.anewarray 9, 3) := by decide +kernel
theorem dX2_init_9 : decode cX2_init 9 = .ok (.dup, 1) := by decide +kernel
theorem dX2_init_10 : decode cX2_init 10 = .ok (.iconst 0, 1) := by decide +kernel
theorem dX2_init_11 : decode cX2_init 11 = .ok (.new 9, 3) := by decide +kernel
theorem dX2_init_14 : decode cX2_init 14 = .ok (.dup, 1) := by decide +kernel
theorem dX2_init_15 : decode cX2_init 15 = .ok (.invokespecial 11, 3) := by decide +kernel
theorem dX2_init_18 : decode cX2_init 18 = .ok (.aastore, 1) := by decide +kernel
theorem dX2_init_19 : decode cX2_init 19 = .ok (.dup, 1) := by decide +kernel
theorem dX2_init_20 : decode cX2_init 20 = .ok (.iconst 1, 1) := by decide +kernel
theorem dX2_init_21 : decode cX2_init 21 = .ok (.new 12, 3) := by decide +kernel
theorem dX2_init_24 : decode cX2_init 24 = .ok (.dup, 1) := by decide +kernel
theorem dX2_init_25 : decode cX2_init 25 = .ok (.invokespecial 14, 3) := by decide +kernel
theorem dX2_init_28 : decode cX2_init 28 = .ok (.aastore, 1) := by decide +kernel
theorem dX2_init_29 : decode cX2_init 29 = .ok (.dup, 1) := by decide +kernel
theorem dX2_init_30 : decode cX2_init 30 = .ok (.iconst 2, 1) := by decide +kernel
theorem dX2_init_31 : decode cX2_init 31 = .ok (.new 15, 3) := by decide +kernel
theorem dX2_init_34 : decode cX2_init 34 = .ok (.dup, 1) := by decide +kernel
theorem dX2_init_35 : decode cX2_init 35 = .ok (.invokespecial 17, 3) := by decide +kernel
theorem dX2_init_38 : decode cX2_init 38 = .ok (.aastore, 1) := by decide +kernel
theorem dX2_init_39 : decode cX2_init 39 = .ok (.dup, 1) := by decide +kernel
theorem dX2_init_40 : decode cX2_init 40 = .ok (.iconst 3, 1) := by decide +kernel
theorem dX2_init_41 : decode cX2_init 41 = .ok (.new 18, 3) := by decide +kernel
theorem dX2_init_44 : decode cX2_init 44 = .ok (.dup, 1) := by decide +kernel
theorem dX2_init_45 : decode cX2_init 45 = .ok (.invokespecial 20, 3) := by decide +kernel
theorem dX2_init_48 : decode cX2_init 48 = .ok (.aastore, 1) := by decide +kernel
theorem dX2_init_49 : decode cX2_init 49 = .ok (.dup, 1) := by decide +kernel
theorem dX2_init_50 : decode cX2_init 50 = .ok (.iconst 4, 1) := by decide +kernel
theorem dX2_init_51 : decode cX2_init 51 = .ok (.new 21, 3) := by decide +kernel
theorem dX2_init_54 : decode cX2_init 54 = .ok (.dup, 1) := by decide +kernel
theorem dX2_init_55 : decode cX2_init 55 = .ok (.invokespecial 23, 3) := by decide +kernel
theorem dX2_init_58 : decode cX2_init 58 = .ok (.aastore, 1) := by decide +kernel
theorem dX2_init_59 : decode cX2_init 59 = .ok (.putfield 24, 3) := by decide +kernel
theorem dX2_init_62 : decode cX2_init 62 = .ok (.aload_n 0, 1) := by decide +kernel
theorem dX2_init_63 : decode cX2_init 63 = .ok (.bipush 7, 2) := by decide +kernel
theorem dX2_init_65 : decode cX2_init 65 = .ok (.newarray .int, 2) := by decide +kernel
theorem dX2_init_67 : decode cX2_init 67 = .ok (.putfield 30, 3) := by decide +kernel
theorem dX2_init_70 : decode cX2_init 70 = .ok (.aload_n 0, 1) := by decide +kernel
theorem dX2_init_71 : decode cX2_init 71 = .ok (.bipush 7, 2) := by decide +kernel
theorem dX2_init_73 : decode cX2_init 73 = .ok (.newarray .int, 2) := by decide +kernel
theorem dX2_init_75 : decode cX2_init 75 = .ok (.putfield 34, 3) := by decide +kernel
theorem dX2_init_78 : decode cX2_init 78 = .ok (.aload_n 0, 1) := by decide +kernel
theorem dX2_init_79 : decode cX2_init 79 = .ok (.bipush 7, 2) := by decide +kernel
theorem dX2_init_81 : decode cX2_init 81 = .ok (.newarray .int, 2) := by decide +kernel
theorem dX2_init_83 : decode cX2_init 83 = .ok (.putfield 37, 3) := by decide +kernel
theorem dX2_init_86 : decode cX2_init 86 = .ok (.aload_n 0, 1) := by decide +kernel
theorem dX2_init_87 : decode cX2_init 87 = .ok (.iconst 5, 1) := by decide +kernel
theorem dX2_init_88 : decode cX2_init 88 = .ok (.newarray .int, 2) := by decide +kernel
theorem dX2_init_90 : decode cX2_init 90 = .ok (.putfield 40, 3) := by decide +kernel
theorem dX2_init_93 : decode cX2_init 93 = .ok (.aload_n 0, 1) := by decide +kernel
theorem dX2_init_94 : decode cX2_init 94 = .ok (.iconst 5, 1) := by decide +kernel
theorem dX2_init_95 : decode cX2_init 95 = .ok (.newarray .int, 2) := by decide +kernel
theorem dX2_init_97 : decode cX2_init 97 = .ok (.putfield 43, 3) := by decide +kernel
theorem dX2_init_100 : decode cX2_init 100 = .ok (.aload_n 0, 1) := by decide +kernel
theorem dX2_init_101 : decode cX2_init 101 = .ok (.iconst 5, 1) := by decide +kernel
theorem dX2_init_102 : decode cX2_init 102 = .ok (.newarray .int, 2) := by decide +kernel
theorem dX2_init_104 : decode cX2_init 104 = .ok (.putfield 46, 3) := by decide +kernel
theorem dX2_init_107 : decode cX2_init 107 = .ok (.aload_n 0, 1) := by decide +kernel
theorem dX2_init_108 : decode cX2_init 108 = .ok (.iconst 5, 1) := by decide +kernel
theorem dX2_init_109 : decode cX2_init 109 = .ok (.newarray .int, 2) := by decide +kernel
theorem dX2_init_111 : decode cX2_init 111 = .ok (.putfield 49, 3) := by decide +kernel
theorem dX2_init_114 : decode cX2_init 114 = .ok (.aload_n 0, 1) := by decide +kernel
theorem dX2_init_115 : decode cX2_init 115 = .ok (.iconst 5, 1) := by decide +kernel
theorem dX2_init_116 : decode cX2_init 116 = .ok (.newarray .int, 2) := by decide +kernel
theorem dX2_init_118 : decode cX2_init 118 = .ok (.putfield 52, 3) := by decide +kernel
theorem dX2_init_121 : decode cX2_init 121 = .ok (.aload_n 0, 1) := by decide +kernel
theorem dX2_init_122 : decode cX2_init 122 = .ok (.bipush 6, 2) := by decide +kernel
theorem dX2_init_124 : decode cX2_init 124 = .ok (.newarray .int, 2) := by decide +kernel
theorem dX2_init_126 : decode cX2_init 126 = .ok (.putfield 55, 3) := by decide +kernel
theorem dX2_init_129 : decode cX2_init 129 = .ok (.aload_n 0, 1) := by decide +kernel
theorem dX2_init_130 : decode cX2_init 130 = .ok (.bipush 6, 2) := by decide +kernel
theorem dX2_init_132 : decode cX2_init 132 = .ok (.newarray .int, 2) := by decide +kernel
theorem dX2_init_134 : decode cX2_init 134 = .ok (.putfield 58, 3) := by decide +kernel
theorem dX2_init_137 : decode cX2_init 137 = .ok (.aload_n 0, 1) := by decide +kernel
theorem dX2_init_138 : decode cX2_init 138 = .ok (.bipush 6, 2) := by decide +kernel
theorem dX2_init_140 : decode cX2_init 140 = .ok (.newarray .int, 2) := by decide +kernel
theorem dX2_init_142 : decode cX2_init 142 = .ok (.putfield 61, 3) := by decide +kernel
theorem dX2_init_145 : decode cX2_init 145 = .ok (.aload_n 0, 1) := by decide +kernel
theorem dX2_init_146 : decode cX2_init 146 = .ok (.bipush 6, 2) := by decide +kernel
theorem dX2_init_148 : decode cX2_init 148 = .ok (.newarray .int, 2) := by decide +kernel
theorem dX2_init_150 : decode cX2_init 150 = .ok (.putfield 64, 3) := by decide +kernel
theorem dX2_init_153 : decode cX2_init 153 = .ok (.return_, 1) := by decide +kernel
set_option maxRecDepth 20000 in
theorem ggX2_settle_X5_border : GoodIn wsX2_settle wsX5_border := goodIn_r _ [23, 24, 25, 142, 143] (by decide +kernel) (by decide +kernel)
set_option maxRecDepth 20000 in
theorem gX2_settle_X5_border : GoodIn wsX2_settle (wsV RX2 67 RX5 yX5_border wsX5_border) := goodIn_app (goodIn_of _ (by decide +kernel)) ggX2_settle_X5_border
set_option maxRecDepth 20000 in
theorem ggX2_settle_X5_digitAt : GoodIn wsX2_settle wsX5_digitAt := goodIn_r _ [29, 30, 31, 32, 22, 33, 24, 25, 142, 143] (by decide +kernel) (by decide +kernel)
set_option maxRecDepth 20000 in
theorem gX2_settle_X5_digitAt : GoodIn wsX2_settle (wsV RX2 73 RX5 yX5_digitAt wsX5_digitAt) := goodIn_app (goodIn_of _ (by decide +kernel)) ggX2_settle_X5_digitAt
set_option maxRecDepth 20000 in
theorem ggX2_settle_X5_kindAt : GoodIn wsX2_settle wsX5_kindAt := goodIn_r _ [37, 30, 31, 32, 22, 33, 24, 25, 38, 39, 40, 41, 42, 43, 44, 45, 46, 47, 48, 49, 50, 51, 52, 53, 54, 55, 56, 57, 58, 59, 60, 61, 62, 63, 64, 65, 66, 67, 4, 68, 69, 3, 5, 70, 71, 72, 73, 74, 75, 76, 77, 78, 79, 80, 81, 82, 83, 84, 85, 86, 87, 88, 89, 90, 91, 92, 93, 94, 95, 96, 97, 98, 99, 100, 101, 102, 103, 104, 105, 106, 107, 108, 109, 110, 111, 112, 113, 114, 115, 116, 117, 118, 119, 120, 121, 122, 123, 142, 143] (by decide +kernel) (by decide +kernel)
set_option maxRecDepth 20000 in
theorem gX2_settle_X5_kindAt : GoodIn wsX2_settle (wsV RX2 96 RX5 yX5_kindAt wsX5_kindAt) := goodIn_app (goodIn_of _ (by decide +kernel)) ggX2_settle_X5_kindAt
theorem dX2_settle_0 : decode cX2_settle 0 = .ok (.aload_n 1, 1) := by decide +kernel
theorem dX2_settle_1 : decode cX2_settle 1 = .ok (.invokevirtual 67, 3) := by decide +kernel
theorem dX2_settle_4 : decode cX2_settle 4 = .ok (.istore_n 2, 1) := by decide +kernel
theorem dX2_settle_5 : decode cX2_settle 5 = .ok (.aload_n 0, 1) := by decide +kernel
theorem dX2_settle_6 : decode cX2_settle 6 = .ok (.aload_n 1, 1) := by decide +kernel
theorem dX2_settle_7 : decode cX2_settle 7 = .ok (.iconst 0, 1) := by decide +kernel
theorem dX2_settle_8 : decode cX2_settle 8 = .ok (.invokevirtual 73, 3) := by decide +kernel
theorem dX2_settle_11 : decode cX2_settle 11 = .ok (.putfield 77, 3) := by decide +kernel
theorem dX2_settle_14 : decode cX2_settle 14 = .ok (.aload_n 0, 1) := by decide +kernel
theorem dX2_settle_15 : decode cX2_settle 15 = .ok (.iload_n 2, 1) := by decide +kernel
theorem dX2_settle_16 : decode cX2_settle 16 = .ok (.iconst 1, 1) := by decide +kernel
theorem dX2_settle_17 : decode cX2_settle 17 = .ok (.isub, 1) := by decide +kernel
theorem dX2_settle_18 : decode cX2_settle 18 = .ok (.iconst 4, 1) := by decide +kernel
theorem dX2_settle_19 : decode cX2_settle 19 = .ok (.idiv, 1) := by decide +kernel
theorem dX2_settle_20 : decode cX2_settle 20 = .ok (.bipush 7, 2) := by decide +kernel
theorem dX2_settle_22 : decode cX2_settle 22 = .ok (.invokestatic 81, 3) := by decide +kernel
theorem dX2_settle_25 : decode cX2_settle 25 = .ok (.putfield 87, 3) := by decide +kernel
theorem dX2_settle_28 : decode cX2_settle 28 = .ok (.aload_n 0, 1) := by decide +kernel
theorem dX2_settle_29 : decode cX2_settle 29 = .ok (.aload_n 1, 1) := by decide +kernel
theorem dX2_settle_30 : decode cX2_settle 30 = .ok (.getfield 90, 3) := by decide +kernel
theorem dX2_settle_33 : decode cX2_settle 33 = .ok (.iload_n 2, 1) := by decide +kernel
theorem dX2_settle_34 : decode cX2_settle 34 = .ok (.isub, 1) := by decide +kernel
theorem dX2_settle_35 : decode cX2_settle 35 = .ok (.iconst 4, 1) := by decide +kernel
theorem dX2_settle_36 : decode cX2_settle 36 = .ok (.idiv, 1) := by decide +kernel
theorem dX2_settle_37 : decode cX2_settle 37 = .ok (.iconst 5, 1) := by decide +kernel
theorem dX2_settle_38 : decode cX2_settle 38 = .ok (.invokestatic 81, 3) := by decide +kernel
theorem dX2_settle_41 : decode cX2_settle 41 = .ok (.putfield 93, 3) := by decide +kernel
theorem dX2_settle_44 : decode cX2_settle 44 = .ok (.iconst 0, 1) := by decide +kernel
theorem dX2_settle_45 : decode cX2_settle 45 = .ok (.istore_n 3, 1) := by decide +kernel
theorem dX2_settle_46 : decode cX2_settle 46 = .ok (.iload_n 3, 1) := by decide +kernel
theorem dX2_settle_47 : decode cX2_settle 47 = .ok (.aload_n 0, 1) := by decide +kernel
theorem dX2_settle_48 : decode cX2_settle 48 = .ok (.getfield 87, 3) := by decide +kernel
theorem dX2_settle_51 : decode cX2_settle 51 = .ok (.if_icmp .ge 56, 3) := by decide +kernel
theorem dX2_settle_54 : decode cX2_settle 54 = .ok (.iconst 2, 1) := by decide +kernel
theorem dX2_settle_55 : decode cX2_settle 55 = .ok (.iconst 4, 1) := by decide +kernel
theorem dX2_settle_56 : decode cX2_settle 56 = .ok (.iload_n 3, 1) := by decide +kernel
theorem dX2_settle_57 : decode cX2_settle 57 = .ok (.imul, 1) := by decide +kernel
theorem dX2_settle_58 : decode cX2_settle 58 = .ok (.iadd, 1) := by decide +kernel
theorem dX2_settle_59 : decode cX2_settle 59 = .ok (.istore 4, 2) := by decide +kernel
theorem dX2_settle_61 : decode cX2_settle 61 = .ok (.aload_n 0, 1) := by decide +kernel
theorem dX2_settle_62 : decode cX2_settle 62 = .ok (.getfield 30, 3) := by decide +kernel
theorem dX2_settle_65 : decode cX2_settle 65 = .ok (.iload_n 3, 1) := by decide +kernel
theorem dX2_settle_66 : decode cX2_settle 66 = .ok (.aload_n 1, 1) := by decide +kernel
theorem dX2_settle_67 : decode cX2_settle 67 = .ok (.iload 4, 2) := by decide +kernel
theorem dX2_settle_69 : decode cX2_settle 69 = .ok (.invokevirtual 73, 3) := by decide +kernel
theorem dX2_settle_72 : decode cX2_settle 72 = .ok (.iastore, 1) := by decide +kernel
theorem dX2_settle_73 : decode cX2_settle 73 = .ok (.aload_n 0, 1) := by decide +kernel
theorem dX2_settle_74 : decode cX2_settle 74 = .ok (.getfield 34, 3) := by decide +kernel
theorem dX2_settle_77 : decode cX2_settle 77 = .ok (.iload_n 3, 1) := by decide +kernel
theorem dX2_settle_78 : decode cX2_settle 78 = .ok (.aload_n 1, 1) := by decide +kernel
theorem dX2_settle_79 : decode cX2_settle 79 = .ok (.iload 4, 2) := by decide +kernel
theorem dX2_settle_81 : decode cX2_settle 81 = .ok (.iconst 1, 1) := by decide +kernel
theorem dX2_settle_82 : decode cX2_settle 82 = .ok (.iadd, 1) := by decide +kernel
theorem dX2_settle_83 : decode cX2_settle 83 = .ok (.invokevirtual 73, 3) := by decide +kernel
theorem dX2_settle_86 : decode cX2_settle 86 = .ok (.iastore, 1) := by decide +kernel
theorem dX2_settle_87 : decode cX2_settle 87 = .ok (.aload_n 0, 1) := by decide +kernel
theorem dX2_settle_88 : decode cX2_settle 88 = .ok (.getfield 37, 3) := by decide +kernel
theorem dX2_settle_91 : decode cX2_settle 91 = .ok (.iload_n 3, 1) := by decide +kernel
theorem dX2_settle_92 : decode cX2_settle 92 = .ok (.aload_n 1, 1) := by decide +kernel
theorem dX2_settle_93 : decode cX2_settle 93 = .ok (.iload 4, 2) := by decide +kernel
theorem dX2_settle_95 : decode cX2_settle 95 = .ok (.iconst 2, 1) := by decide +kernel
theorem dX2_settle_96 : decode cX2_settle 96 = .ok (.iadd, 1) := by decide +kernel
theorem dX2_settle_97 : decode cX2_settle 97 = .ok (.invokevirtual 73, 3) := by decide +kernel
theorem dX2_settle_100 : decode cX2_settle 100 = .ok (.iastore, 1) := by decide +kernel
theorem dX2_settle_101 : decode cX2_settle 101 = .ok (.iinc 3 1, 3) := by decide +kernel
theorem dX2_settle_104 : decode cX2_settle 104 = .ok (.goto (-58), 3) := by decide +kernel
theorem dX2_settle_107 : decode cX2_settle 107 = .ok (.iconst 0, 1) := by decide +kernel
theorem dX2_settle_108 : decode cX2_settle 108 = .ok (.istore_n 3, 1) := by decide +kernel
theorem dX2_settle_109 : decode cX2_settle 109 = .ok (.iload_n 3, 1) := by decide +kernel
theorem dX2_settle_110 : decode cX2_settle 110 = .ok (.aload_n 0, 1) := by decide +kernel
theorem dX2_settle_111 : decode cX2_settle 111 = .ok (.getfield 93, 3) := by decide +kernel
theorem dX2_settle_114 : decode cX2_settle 114 = .ok (.if_icmp .ge 72, 3) := by decide +kernel
theorem dX2_settle_117 : decode cX2_settle 117 = .ok (.iload_n 2, 1) := by decide +kernel
theorem dX2_settle_118 : decode cX2_settle 118 = .ok (.iconst 1, 1) := by decide +kernel
theorem dX2_settle_119 : decode cX2_settle 119 = .ok (.iadd, 1) := by decide +kernel
theorem dX2_settle_120 : decode cX2_settle 120 = .ok (.iconst 4, 1) := by decide +kernel
theorem dX2_settle_121 : decode cX2_settle 121 = .ok (.iload_n 3, 1) := by decide +kernel
theorem dX2_settle_122 : decode cX2_settle 122 = .ok (.imul, 1) := by decide +kernel
theorem dX2_settle_123 : decode cX2_settle 123 = .ok (.iadd, 1) := by decide +kernel
theorem dX2_settle_124 : decode cX2_settle 124 = .ok (.istore 4, 2) := by decide +kernel
theorem dX2_settle_126 : decode cX2_settle 126 = .ok (.aload_n 0, 1) := by decide +kernel
theorem dX2_settle_127 : decode cX2_settle 127 = .ok (.getfield 40, 3) := by decide +kernel
theorem dX2_settle_130 : decode cX2_settle 130 = .ok (.iload_n 3, 1) := by decide +kernel
theorem dX2_settle_131 : decode cX2_settle 131 = .ok (.aload_n 1, 1) := by decide +kernel
theorem dX2_settle_132 : decode cX2_settle 132 = .ok (.iload 4, 2) := by decide +kernel
theorem dX2_settle_134 : decode cX2_settle 134 = .ok (.invokevirtual 96, 3) := by decide +kernel
theorem dX2_settle_137 : decode cX2_settle 137 = .ok (.iastore, 1) := by decide +kernel
theorem dX2_settle_138 : decode cX2_settle 138 = .ok (.aload_n 0, 1) := by decide +kernel
theorem dX2_settle_139 : decode cX2_settle 139 = .ok (.getfield 43, 3) := by decide +kernel
theorem dX2_settle_142 : decode cX2_settle 142 = .ok (.iload_n 3, 1) := by decide +kernel
theorem dX2_settle_143 : decode cX2_settle 143 = .ok (.aload_n 1, 1) := by decide +kernel
theorem dX2_settle_144 : decode cX2_settle 144 = .ok (.iload 4, 2) := by decide +kernel
theorem dX2_settle_146 : decode cX2_settle 146 = .ok (.iconst 1, 1) := by decide +kernel
theorem dX2_settle_147 : decode cX2_settle 147 = .ok (.iadd, 1) := by decide +kernel
theorem dX2_settle_148 : decode cX2_settle 148 = .ok (.invokevirtual 73, 3) := by decide +kernel
theorem dX2_settle_151 : decode cX2_settle 151 = .ok (.iastore, 1) := by decide +kernel
theorem dX2_settle_152 : decode cX2_settle 152 = .ok (.aload_n 0, 1) := by decide +kernel
theorem dX2_settle_153 : decode cX2_settle 153 = .ok (.getfield 46, 3) := by decide +kernel
theorem dX2_settle_156 : decode cX2_settle 156 = .ok (.iload_n 3, 1) := by decide +kernel
theorem dX2_settle_157 : decode cX2_settle 157 = .ok (.aload_n 1, 1) := by decide +kernel
theorem dX2_settle_158 : decode cX2_settle 158 = .ok (.iload 4, 2) := by decide +kernel
theorem dX2_settle_160 : decode cX2_settle 160 = .ok (.iconst 2, 1) := by decide +kernel
theorem dX2_settle_161 : decode cX2_settle 161 = .ok (.iadd, 1) := by decide +kernel
theorem dX2_settle_162 : decode cX2_settle 162 = .ok (.invokevirtual 73, 3) := by decide +kernel
theorem dX2_settle_165 : decode cX2_settle 165 = .ok (.iastore, 1) := by decide +kernel
theorem dX2_settle_166 : decode cX2_settle 166 = .ok (.aload_n 0, 1) := by decide +kernel
theorem dX2_settle_167 : decode cX2_settle 167 = .ok (.getfield 49, 3) := by decide +kernel
theorem dX2_settle_170 : decode cX2_settle 170 = .ok (.iload_n 3, 1) := by decide +kernel
theorem dX2_settle_171 : decode cX2_settle 171 = .ok (.iconst 0, 1) := by decide +kernel
theorem dX2_settle_172 : decode cX2_settle 172 = .ok (.iastore, 1) := by decide +kernel
theorem dX2_settle_173 : decode cX2_settle 173 = .ok (.aload_n 0, 1) := by decide +kernel
theorem dX2_settle_174 : decode cX2_settle 174 = .ok (.getfield 52, 3) := by decide +kernel
theorem dX2_settle_177 : decode cX2_settle 177 = .ok (.iload_n 3, 1) := by decide +kernel
theorem dX2_settle_178 : decode cX2_settle 178 = .ok (.iconst 0, 1) := by decide +kernel
theorem dX2_settle_179 : decode cX2_settle 179 = .ok (.iastore, 1) := by decide +kernel
theorem dX2_settle_180 : decode cX2_settle 180 = .ok (.iinc 3 1, 3) := by decide +kernel
theorem dX2_settle_183 : decode cX2_settle 183 = .ok (.goto (-74), 3) := by decide +kernel
theorem dX2_settle_186 : decode cX2_settle 186 = .ok (.aload_n 0, 1) := by decide +kernel
theorem dX2_settle_187 : decode cX2_settle 187 = .ok (.iconst 0, 1) := by decide +kernel
theorem dX2_settle_188 : decode cX2_settle 188 = .ok (.putfield 99, 3) := by decide +kernel
theorem dX2_settle_191 : decode cX2_settle 191 = .ok (.aload_n 0, 1) := by decide +kernel
theorem dX2_settle_192 : decode cX2_settle 192 = .ok (.iconst 0, 1) := by decide +kernel
theorem dX2_settle_193 : decode cX2_settle 193 = .ok (.putfield 102, 3) := by decide +kernel
theorem dX2_settle_196 : decode cX2_settle 196 = .ok (.return_, 1) := by decide +kernel
theorem dX2_copyFrom_0 : decode cX2_copyFrom 0 = .ok (.aload_n 0, 1) := by decide +kernel
theorem dX2_copyFrom_1 : decode cX2_copyFrom 1 = .ok (.aload_n 1, 1) := by decide +kernel
theorem dX2_copyFrom_2 : decode cX2_copyFrom 2 = .ok (.getfield 77, 3) := by decide +kernel
theorem dX2_copyFrom_5 : decode cX2_copyFrom 5 = .ok (.putfield 77, 3) := by decide +kernel
theorem dX2_copyFrom_8 : decode cX2_copyFrom 8 = .ok (.aload_n 0, 1) := by decide +kernel
theorem dX2_copyFrom_9 : decode cX2_copyFrom 9 = .ok (.aload_n 1, 1) := by decide +kernel
theorem dX2_copyFrom_10 : decode cX2_copyFrom 10 = .ok (.getfield 87, 3) := by decide +kernel
theorem dX2_copyFrom_13 : decode cX2_copyFrom 13 = .ok (.putfield 87, 3) := by decide +kernel
theorem dX2_copyFrom_16 : decode cX2_copyFrom 16 = .ok (.aload_n 0, 1) := by decide +kernel
theorem dX2_copyFrom_17 : decode cX2_copyFrom 17 = .ok (.aload_n 1, 1) := by decide +kernel
theorem dX2_copyFrom_18 : decode cX2_copyFrom 18 = .ok (.getfield 93, 3) := by decide +kernel
theorem dX2_copyFrom_21 : decode cX2_copyFrom 21 = .ok (.putfield 93, 3) := by decide +kernel
theorem dX2_copyFrom_24 : decode cX2_copyFrom 24 = .ok (.aload_n 0, 1) := by decide +kernel
theorem dX2_copyFrom_25 : decode cX2_copyFrom 25 = .ok (.aload_n 1, 1) := by decide +kernel
theorem dX2_copyFrom_26 : decode cX2_copyFrom 26 = .ok (.getfield 99, 3) := by decide +kernel
theorem dX2_copyFrom_29 : decode cX2_copyFrom 29 = .ok (.putfield 99, 3) := by decide +kernel
theorem dX2_copyFrom_32 : decode cX2_copyFrom 32 = .ok (.aload_n 0, 1) := by decide +kernel
theorem dX2_copyFrom_33 : decode cX2_copyFrom 33 = .ok (.aload_n 1, 1) := by decide +kernel
theorem dX2_copyFrom_34 : decode cX2_copyFrom 34 = .ok (.getfield 102, 3) := by decide +kernel
theorem dX2_copyFrom_37 : decode cX2_copyFrom 37 = .ok (.putfield 102, 3) := by decide +kernel
theorem dX2_copyFrom_40 : decode cX2_copyFrom 40 = .ok (.aload_n 1, 1) := by decide +kernel
theorem dX2_copyFrom_41 : decode cX2_copyFrom 41 = .ok (.getfield 30, 3) := by decide +kernel
theorem dX2_copyFrom_44 : decode cX2_copyFrom 44 = .ok (.iconst 0, 1) := by decide +kernel
theorem dX2_copyFrom_45 : decode cX2_copyFrom 45 = .ok (.aload_n 0, 1) := by decide +kernel
theorem dX2_copyFrom_46 : decode cX2_copyFrom 46 = .ok (.getfield 30, 3) := by decide +kernel
theorem dX2_copyFrom_49 : decode cX2_copyFrom 49 = .ok (.iconst 0, 1) := by decide +kernel
theorem dX2_copyFrom_50 : decode cX2_copyFrom 50 = .ok (.bipush 7, 2) := by decide +kernel
theorem dX2_copyFrom_52 : decode cX2_copyFrom 52 = .ok (.invokestatic 105, 3) := by decide +kernel
theorem dX2_copyFrom_55 : decode cX2_copyFrom 55 = .ok (.aload_n 1, 1) := by decide +kernel
theorem dX2_copyFrom_56 : decode cX2_copyFrom 56 = .ok (.getfield 34, 3) := by decide +kernel
theorem dX2_copyFrom_59 : decode cX2_copyFrom 59 = .ok (.iconst 0, 1) := by decide +kernel
theorem dX2_copyFrom_60 : decode cX2_copyFrom 60 = .ok (.aload_n 0, 1) := by decide +kernel
theorem dX2_copyFrom_61 : decode cX2_copyFrom 61 = .ok (.getfield 34, 3) := by decide +kernel
theorem dX2_copyFrom_64 : decode cX2_copyFrom 64 = .ok (.iconst 0, 1) := by decide +kernel
theorem dX2_copyFrom_65 : decode cX2_copyFrom 65 = .ok (.bipush 7, 2) := by decide +kernel
theorem dX2_copyFrom_67 : decode cX2_copyFrom 67 = .ok (.invokestatic 105, 3) := by decide +kernel
theorem dX2_copyFrom_70 : decode cX2_copyFrom 70 = .ok (.aload_n 1, 1) := by decide +kernel
theorem dX2_copyFrom_71 : decode cX2_copyFrom 71 = .ok (.getfield 37, 3) := by decide +kernel
theorem dX2_copyFrom_74 : decode cX2_copyFrom 74 = .ok (.iconst 0, 1) := by decide +kernel
theorem dX2_copyFrom_75 : decode cX2_copyFrom 75 = .ok (.aload_n 0, 1) := by decide +kernel
theorem dX2_copyFrom_76 : decode cX2_copyFrom 76 = .ok (.getfield 37, 3) := by decide +kernel
theorem dX2_copyFrom_79 : decode cX2_copyFrom 79 = .ok (.iconst 0, 1) := by decide +kernel
theorem dX2_copyFrom_80 : decode cX2_copyFrom 80 = .ok (.bipush 7, 2) := by decide +kernel
theorem dX2_copyFrom_82 : decode cX2_copyFrom 82 = .ok (.invokestatic 105, 3) := by decide +kernel
theorem dX2_copyFrom_85 : decode cX2_copyFrom 85 = .ok (.aload_n 1, 1) := by decide +kernel
theorem dX2_copyFrom_86 : decode cX2_copyFrom 86 = .ok (.getfield 40, 3) := by decide +kernel
theorem dX2_copyFrom_89 : decode cX2_copyFrom 89 = .ok (.iconst 0, 1) := by decide +kernel
theorem dX2_copyFrom_90 : decode cX2_copyFrom 90 = .ok (.aload_n 0, 1) := by decide +kernel
theorem dX2_copyFrom_91 : decode cX2_copyFrom 91 = .ok (.getfield 40, 3) := by decide +kernel
theorem dX2_copyFrom_94 : decode cX2_copyFrom 94 = .ok (.iconst 0, 1) := by decide +kernel
theorem dX2_copyFrom_95 : decode cX2_copyFrom 95 = .ok (.iconst 5, 1) := by decide +kernel
theorem dX2_copyFrom_96 : decode cX2_copyFrom 96 = .ok (.invokestatic 105, 3) := by decide +kernel
theorem dX2_copyFrom_99 : decode cX2_copyFrom 99 = .ok (.aload_n 1, 1) := by decide +kernel
theorem dX2_copyFrom_100 : decode cX2_copyFrom 100 = .ok (.getfield 43, 3) := by decide +kernel
theorem dX2_copyFrom_103 : decode cX2_copyFrom 103 = .ok (.iconst 0, 1) := by decide +kernel
theorem dX2_copyFrom_104 : decode cX2_copyFrom 104 = .ok (.aload_n 0, 1) := by decide +kernel
theorem dX2_copyFrom_105 : decode cX2_copyFrom 105 = .ok (.getfield 43, 3) := by decide +kernel
theorem dX2_copyFrom_108 : decode cX2_copyFrom 108 = .ok (.iconst 0, 1) := by decide +kernel
theorem dX2_copyFrom_109 : decode cX2_copyFrom 109 = .ok (.iconst 5, 1) := by decide +kernel
theorem dX2_copyFrom_110 : decode cX2_copyFrom 110 = .ok (.invokestatic 105, 3) := by decide +kernel
theorem dX2_copyFrom_113 : decode cX2_copyFrom 113 = .ok (.aload_n 1, 1) := by decide +kernel
theorem dX2_copyFrom_114 : decode cX2_copyFrom 114 = .ok (.getfield 46, 3) := by decide +kernel
theorem dX2_copyFrom_117 : decode cX2_copyFrom 117 = .ok (.iconst 0, 1) := by decide +kernel
theorem dX2_copyFrom_118 : decode cX2_copyFrom 118 = .ok (.aload_n 0, 1) := by decide +kernel
theorem dX2_copyFrom_119 : decode cX2_copyFrom 119 = .ok (.getfield 46, 3) := by decide +kernel
theorem dX2_copyFrom_122 : decode cX2_copyFrom 122 = .ok (.iconst 0, 1) := by decide +kernel
theorem dX2_copyFrom_123 : decode cX2_copyFrom 123 = .ok (.iconst 5, 1) := by decide +kernel
theorem dX2_copyFrom_124 : decode cX2_copyFrom 124 = .ok (.invokestatic 105, 3) := by decide +kernel
theorem dX2_copyFrom_127 : decode cX2_copyFrom 127 = .ok (.aload_n 1, 1) := by decide +kernel
theorem dX2_copyFrom_128 : decode cX2_copyFrom 128 = .ok (.getfield 49, 3) := by decide +kernel
theorem dX2_copyFrom_131 : decode cX2_copyFrom 131 = .ok (.iconst 0, 1) := by decide +kernel
theorem dX2_copyFrom_132 : decode cX2_copyFrom 132 = .ok (.aload_n 0, 1) := by decide +kernel
theorem dX2_copyFrom_133 : decode cX2_copyFrom 133 = .ok (.getfield 49, 3) := by decide +kernel
theorem dX2_copyFrom_136 : decode cX2_copyFrom 136 = .ok (.iconst 0, 1) := by decide +kernel
theorem dX2_copyFrom_137 : decode cX2_copyFrom 137 = .ok (.iconst 5, 1) := by decide +kernel
theorem dX2_copyFrom_138 : decode cX2_copyFrom 138 = .ok (.invokestatic 105, 3) := by decide +kernel
theorem dX2_copyFrom_141 : decode cX2_copyFrom 141 = .ok (.aload_n 1, 1) := by decide +kernel
theorem dX2_copyFrom_142 : decode cX2_copyFrom 142 = .ok (.getfield 52, 3) := by decide +kernel
theorem dX2_copyFrom_145 : decode cX2_copyFrom 145 = .ok (.iconst 0, 1) := by decide +kernel
theorem dX2_copyFrom_146 : decode cX2_copyFrom 146 = .ok (.aload_n 0, 1) := by decide +kernel
theorem dX2_copyFrom_147 : decode cX2_copyFrom 147 = .ok (.getfield 52, 3) := by decide +kernel
theorem dX2_copyFrom_150 : decode cX2_copyFrom 150 = .ok (.iconst 0, 1) := by decide +kernel
theorem dX2_copyFrom_151 : decode cX2_copyFrom 151 = .ok (.iconst 5, 1) := by decide +kernel
theorem dX2_copyFrom_152 : decode cX2_copyFrom 152 = .ok (.invokestatic 105, 3) := by decide +kernel
theorem dX2_copyFrom_155 : decode cX2_copyFrom 155 = .ok (.aload_n 1, 1) := by decide +kernel
theorem dX2_copyFrom_156 : decode cX2_copyFrom 156 = .ok (.getfield 55, 3) := by decide +kernel
theorem dX2_copyFrom_159 : decode cX2_copyFrom 159 = .ok (.iconst 0, 1) := by decide +kernel
theorem dX2_copyFrom_160 : decode cX2_copyFrom 160 = .ok (.aload_n 0, 1) := by decide +kernel
theorem dX2_copyFrom_161 : decode cX2_copyFrom 161 = .ok (.getfield 55, 3) := by decide +kernel
theorem dX2_copyFrom_164 : decode cX2_copyFrom 164 = .ok (.iconst 0, 1) := by decide +kernel
theorem dX2_copyFrom_165 : decode cX2_copyFrom 165 = .ok (.bipush 6, 2) := by decide +kernel
theorem dX2_copyFrom_167 : decode cX2_copyFrom 167 = .ok (.invokestatic 105, 3) := by decide +kernel
theorem dX2_copyFrom_170 : decode cX2_copyFrom 170 = .ok (.aload_n 1, 1) := by decide +kernel
theorem dX2_copyFrom_171 : decode cX2_copyFrom 171 = .ok (.getfield 58, 3) := by decide +kernel
theorem dX2_copyFrom_174 : decode cX2_copyFrom 174 = .ok (.iconst 0, 1) := by decide +kernel
theorem dX2_copyFrom_175 : decode cX2_copyFrom 175 = .ok (.aload_n 0, 1) := by decide +kernel
theorem dX2_copyFrom_176 : decode cX2_copyFrom 176 = .ok (.getfield 58, 3) := by decide +kernel
theorem dX2_copyFrom_179 : decode cX2_copyFrom 179 = .ok (.iconst 0, 1) := by decide +kernel
theorem dX2_copyFrom_180 : decode cX2_copyFrom 180 = .ok (.bipush 6, 2) := by decide +kernel
theorem dX2_copyFrom_182 : decode cX2_copyFrom 182 = .ok (.invokestatic 105, 3) := by decide +kernel
theorem dX2_copyFrom_185 : decode cX2_copyFrom 185 = .ok (.aload_n 1, 1) := by decide +kernel
theorem dX2_copyFrom_186 : decode cX2_copyFrom 186 = .ok (.getfield 61, 3) := by decide +kernel
theorem dX2_copyFrom_189 : decode cX2_copyFrom 189 = .ok (.iconst 0, 1) := by decide +kernel
theorem dX2_copyFrom_190 : decode cX2_copyFrom 190 = .ok (.aload_n 0, 1) := by decide +kernel
theorem dX2_copyFrom_191 : decode cX2_copyFrom 191 = .ok (.getfield 61, 3) := by decide +kernel
theorem dX2_copyFrom_194 : decode cX2_copyFrom 194 = .ok (.iconst 0, 1) := by decide +kernel
theorem dX2_copyFrom_195 : decode cX2_copyFrom 195 = .ok (.bipush 6, 2) := by decide +kernel
theorem dX2_copyFrom_197 : decode cX2_copyFrom 197 = .ok (.invokestatic 105, 3) := by decide +kernel
theorem dX2_copyFrom_200 : decode cX2_copyFrom 200 = .ok (.aload_n 1, 1) := by decide +kernel
theorem dX2_copyFrom_201 : decode cX2_copyFrom 201 = .ok (.getfield 64, 3) := by decide +kernel
theorem dX2_copyFrom_204 : decode cX2_copyFrom 204 = .ok (.iconst 0, 1) := by decide +kernel
theorem dX2_copyFrom_205 : decode cX2_copyFrom 205 = .ok (.aload_n 0, 1) := by decide +kernel
theorem dX2_copyFrom_206 : decode cX2_copyFrom 206 = .ok (.getfield 64, 3) := by decide +kernel
theorem dX2_copyFrom_209 : decode cX2_copyFrom 209 = .ok (.iconst 0, 1) := by decide +kernel
theorem dX2_copyFrom_210 : decode cX2_copyFrom 210 = .ok (.bipush 6, 2) := by decide +kernel
theorem dX2_copyFrom_212 : decode cX2_copyFrom 212 = .ok (.invokestatic 105, 3) := by decide +kernel
theorem dX2_copyFrom_215 : decode cX2_copyFrom 215 = .ok (.return_, 1) := by decide +kernel
theorem dX2_isThere_0 : decode cX2_isThere 0 = .ok (.aload_n 0, 1) := by decide +kernel
theorem dX2_isThere_1 : decode cX2_isThere 1 = .ok (.getfield 77, 3) := by decide +kernel
theorem dX2_isThere_4 : decode cX2_isThere 4 = .ok (.ifCond .le 7, 3) := by decide +kernel
theorem dX2_isThere_7 : decode cX2_isThere 7 = .ok (.iconst 1, 1) := by decide +kernel
theorem dX2_isThere_8 : decode cX2_isThere 8 = .ok (.goto 4, 3) := by decide +kernel
theorem dX2_isThere_11 : decode cX2_isThere 11 = .ok (.iconst 0, 1) := by decide +kernel
theorem dX2_isThere_12 : decode cX2_isThere 12 = .ok (.ireturn, 1) := by decide +kernel
theorem dX2_hasPerson_0 : decode cX2_hasPerson 0 = .ok (.iload_n 1, 1) := by decide +kernel
theorem dX2_hasPerson_1 : decode cX2_hasPerson 1 = .ok (.ifCond .lt 15, 3) := by decide +kernel
theorem dX2_hasPerson_4 : decode cX2_hasPerson 4 = .ok (.iload_n 1, 1) := by decide +kernel
theorem dX2_hasPerson_5 : decode cX2_hasPerson 5 = .ok (.aload_n 0, 1) := by decide +kernel
theorem dX2_hasPerson_6 : decode cX2_hasPerson 6 = .ok (.getfield 93, 3) := by decide +kernel
theorem dX2_hasPerson_9 : decode cX2_hasPerson 9 = .ok (.if_icmp .ge 7, 3) := by decide +kernel
theorem dX2_hasPerson_12 : decode cX2_hasPerson 12 = .ok (.iconst 1, 1) := by decide +kernel
theorem dX2_hasPerson_13 : decode cX2_hasPerson 13 = .ok (.goto 4, 3) := by decide +kernel
theorem dX2_hasPerson_16 : decode cX2_hasPerson 16 = .ok (.iconst 0, 1) := by decide +kernel
theorem dX2_hasPerson_17 : decode cX2_hasPerson 17 = .ok (.ireturn, 1) := by decide +kernel
theorem dX2_hasPassage_0 : decode cX2_hasPassage 0 = .ok (.iload_n 1, 1) := by decide +kernel
theorem dX2_hasPassage_1 : decode cX2_hasPassage 1 = .ok (.ifCond .lt 15, 3) := by decide +kernel
theorem dX2_hasPassage_4 : decode cX2_hasPassage 4 = .ok (.iload_n 1, 1) := by decide +kernel
theorem dX2_hasPassage_5 : decode cX2_hasPassage 5 = .ok (.aload_n 0, 1) := by decide +kernel
theorem dX2_hasPassage_6 : decode cX2_hasPassage 6 = .ok (.getfield 87, 3) := by decide +kernel
theorem dX2_hasPassage_9 : decode cX2_hasPassage 9 = .ok (.if_icmp .ge 7, 3) := by decide +kernel
theorem dX2_hasPassage_12 : decode cX2_hasPassage 12 = .ok (.iconst 1, 1) := by decide +kernel
theorem dX2_hasPassage_13 : decode cX2_hasPassage 13 = .ok (.goto 4, 3) := by decide +kernel
theorem dX2_hasPassage_16 : decode cX2_hasPassage 16 = .ok (.iconst 0, 1) := by decide +kernel
theorem dX2_hasPassage_17 : decode cX2_hasPassage 17 = .ok (.ireturn, 1) := by decide +kernel
theorem dX2_hasRoom_0 : decode cX2_hasRoom 0 = .ok (.iload_n 1, 1) := by decide +kernel
theorem dX2_hasRoom_1 : decode cX2_hasRoom 1 = .ok (.ifCond .lt 15, 3) := by decide +kernel
theorem dX2_hasRoom_4 : decode cX2_hasRoom 4 = .ok (.iload_n 1, 1) := by decide +kernel
theorem dX2_hasRoom_5 : decode cX2_hasRoom 5 = .ok (.aload_n 0, 1) := by decide +kernel
theorem dX2_hasRoom_6 : decode cX2_hasRoom 6 = .ok (.getfield 77, 3) := by decide +kernel
theorem dX2_hasRoom_9 : decode cX2_hasRoom 9 = .ok (.if_icmp .ge 7, 3) := by decide +kernel
theorem dX2_hasRoom_12 : decode cX2_hasRoom 12 = .ok (.iconst 1, 1) := by decide +kernel
theorem dX2_hasRoom_13 : decode cX2_hasRoom 13 = .ok (.goto 4, 3) := by decide +kernel
theorem dX2_hasRoom_16 : decode cX2_hasRoom 16 = .ok (.iconst 0, 1) := by decide +kernel
theorem dX2_hasRoom_17 : decode cX2_hasRoom 17 = .ok (.ireturn, 1) := by decide +kernel
set_option maxRecDepth 20000 in
theorem ggX2_knows_X2_hasPerson : GoodIn wsX2_knows wsX2_hasPerson := goodIn_r _ [5, 6, 12, 13, 14, 15, 16, 17, 18, 19, 20, 21, 22, 23, 24, 25, 26, 27, 28, 29] (by decide +kernel) (by decide +kernel)
set_option maxRecDepth 20000 in
theorem gX2_knows_X2_hasPerson : GoodIn wsX2_knows (wsV RX2 111 RX2 yX2_hasPerson wsX2_hasPerson) := goodIn_app (goodIn_of _ (by decide +kernel)) ggX2_knows_X2_hasPerson
set_option maxRecDepth 20000 in
theorem ggX2_knows_X2_hasPassage : GoodIn wsX2_knows wsX2_hasPassage := goodIn_r _ [10, 11, 12, 13, 14, 15, 16, 17, 18, 19, 20, 21, 22, 23, 24, 25, 26, 27, 28, 29] (by decide +kernel) (by decide +kernel)
set_option maxRecDepth 20000 in
theorem gX2_knows_X2_hasPassage : GoodIn wsX2_knows (wsV RX2 115 RX2 yX2_hasPassage wsX2_hasPassage) := goodIn_app (goodIn_of _ (by decide +kernel)) ggX2_knows_X2_hasPassage
theorem dX2_knows_0 : decode cX2_knows 0 = .ok (.aload_n 0, 1) := by decide +kernel
theorem dX2_knows_1 : decode cX2_knows 1 = .ok (.iload_n 1, 1) := by decide +kernel
theorem dX2_knows_2 : decode cX2_knows 2 = .ok (.invokevirtual 111, 3) := by decide +kernel
theorem dX2_knows_5 : decode cX2_knows 5 = .ok (.ifCond .eq 33, 3) := by decide +kernel
theorem dX2_knows_8 : decode cX2_knows 8 = .ok (.aload_n 0, 1) := by decide +kernel
theorem dX2_knows_9 : decode cX2_knows 9 = .ok (.iload_n 2, 1) := by decide +kernel
theorem dX2_knows_10 : decode cX2_knows 10 = .ok (.invokevirtual 115, 3) := by decide +kernel
theorem dX2_knows_13 : decode cX2_knows 13 = .ok (.ifCond .eq 25, 3) := by decide +kernel
theorem dX2_knows_16 : decode cX2_knows 16 = .ok (.iload_n 3, 1) := by decide +kernel
theorem dX2_knows_17 : decode cX2_knows 17 = .ok (.iconst (-1), 1) := by decide +kernel
theorem dX2_knows_18 : decode cX2_knows 18 = .ok (.if_icmp .eq 16, 3) := by decide +kernel
theorem dX2_knows_21 : decode cX2_knows 21 = .ok (.aload_n 0, 1) := by decide +kernel
theorem dX2_knows_22 : decode cX2_knows 22 = .ok (.iload_n 3, 1) := by decide +kernel
theorem dX2_knows_23 : decode cX2_knows 23 = .ok (.invokevirtual 111, 3) := by decide +kernel
theorem dX2_knows_26 : decode cX2_knows 26 = .ok (.ifCond .eq 12, 3) := by decide +kernel
theorem dX2_knows_29 : decode cX2_knows 29 = .ok (.iload_n 3, 1) := by decide +kernel
theorem dX2_knows_30 : decode cX2_knows 30 = .ok (.iload_n 1, 1) := by decide +kernel
theorem dX2_knows_31 : decode cX2_knows 31 = .ok (.if_icmp .eq 7, 3) := by decide +kernel
theorem dX2_knows_34 : decode cX2_knows 34 = .ok (.iconst 1, 1) := by decide +kernel
theorem dX2_knows_35 : decode cX2_knows 35 = .ok (.goto 4, 3) := by decide +kernel
theorem dX2_knows_38 : decode cX2_knows 38 = .ok (.iconst 0, 1) := by decide +kernel
theorem dX2_knows_39 : decode cX2_knows 39 = .ok (.ireturn, 1) := by decide +kernel
theorem dX2_clerk_0 : decode cX2_clerk 0 = .ok (.aload_n 0, 1) := by decide +kernel
theorem dX2_clerk_1 : decode cX2_clerk 1 = .ok (.getfield 24, 3) := by decide +kernel
theorem dX2_clerk_4 : decode cX2_clerk 4 = .ok (.aload_n 0, 1) := by decide +kernel
theorem dX2_clerk_5 : decode cX2_clerk 5 = .ok (.getfield 40, 3) := by decide +kernel
theorem dX2_clerk_8 : decode cX2_clerk 8 = .ok (.iload_n 1, 1) := by decide +kernel
theorem dX2_clerk_9 : decode cX2_clerk 9 = .ok (.iaload, 1) := by decide +kernel
theorem dX2_clerk_10 : decode cX2_clerk 10 = .ok (.aaload, 1) := by decide +kernel
theorem dX2_clerk_11 : decode cX2_clerk 11 = .ok (.areturn, 1) := by decide +kernel
set_option maxRecDepth 20000 in
theorem ggX2_aloneSteps_X2_clerk : GoodIn wsX2_aloneSteps wsX2_clerk := goodIn_r _ [8, 9, 10, 42, 43, 44, 45, 46, 47, 48, 49, 50, 51, 52, 53, 54, 55, 56, 57, 58, 59] (by decide +kernel) (by decide +kernel)
set_option maxRecDepth 20000 in
theorem gX2_aloneSteps_X2_clerk : GoodIn wsX2_aloneSteps (wsV RX2 118 RX2 yX2_clerk wsX2_clerk) := goodIn_app (goodIn_of _ (by decide +kernel)) ggX2_aloneSteps_X2_clerk
set_option maxRecDepth 20000 in
theorem ggX2_aloneSteps_X0_yards : GoodIn wsX2_aloneSteps wsX0_yards := goodIn_r _ [17, 18, 12, 19, 20, 21, 22] (by decide +kernel) (by decide +kernel)
set_option maxRecDepth 20000 in
theorem gX2_aloneSteps_X0_yards_u122X0 : GoodIn wsX2_aloneSteps (va_wsO RX2 122 RX0 "ShameYards$Clerk" ⟨"ShameYards$Clerk", "yards", "(III)I"⟩ yX0_yards wsX0_yards) := goodIn_app (goodIn_of _ (by decide +kernel)) ggX2_aloneSteps_X0_yards
set_option maxRecDepth 20000 in
theorem ggX2_aloneSteps_X1_yards : GoodIn wsX2_aloneSteps wsX1_yards := goodIn_r _ [22] (by decide +kernel) (by decide +kernel)
set_option maxRecDepth 20000 in
theorem gX2_aloneSteps_X1_yards : GoodIn wsX2_aloneSteps (wsV RX2 122 RX1 yX1_yards wsX1_yards) := goodIn_app (goodIn_of _ (by decide +kernel)) ggX2_aloneSteps_X1_yards
set_option maxRecDepth 20000 in
theorem ggX2_aloneSteps_X3_yards : GoodIn wsX2_aloneSteps wsX3_yards := goodIn_r _ [28, 29, 30, 31, 32, 33, 34] (by decide +kernel) (by decide +kernel)
set_option maxRecDepth 20000 in
theorem gX2_aloneSteps_X3_yards_u122X3 : GoodIn wsX2_aloneSteps (va_wsO RX2 122 RX3 "ShameYards$Clerk" ⟨"ShameYards$Clerk", "yards", "(III)I"⟩ yX3_yards wsX3_yards) := goodIn_app (goodIn_of _ (by decide +kernel)) ggX2_aloneSteps_X3_yards
set_option maxRecDepth 20000 in
theorem ggX2_aloneSteps_X4_yards : GoodIn wsX2_aloneSteps wsX4_yards := goodIn_r _ [34] (by decide +kernel) (by decide +kernel)
set_option maxRecDepth 20000 in
theorem gX2_aloneSteps_X4_yards_u122X4 : GoodIn wsX2_aloneSteps (va_wsO RX2 122 RX4 "ShameYards$Clerk" ⟨"ShameYards$Clerk", "yards", "(III)I"⟩ yX4_yards wsX4_yards) := goodIn_app (goodIn_of _ (by decide +kernel)) ggX2_aloneSteps_X4_yards
set_option maxRecDepth 20000 in
theorem ggX2_aloneSteps_X10_yards : GoodIn wsX2_aloneSteps wsX10_yards := goodIn_r _ [39, 40, 12, 41, 20, 21, 22] (by decide +kernel) (by decide +kernel)
set_option maxRecDepth 20000 in
theorem gX2_aloneSteps_X10_yards_u122X10 : GoodIn wsX2_aloneSteps (va_wsO RX2 122 RX10 "ShameYards$Clerk" ⟨"ShameYards$Clerk", "yards", "(III)I"⟩ yX10_yards wsX10_yards) := goodIn_app (goodIn_of _ (by decide +kernel)) ggX2_aloneSteps_X10_yards
theorem dX2_aloneSteps_0 : decode cX2_aloneSteps 0 = .ok (.aload_n 0, 1) := by decide +kernel
theorem dX2_aloneSteps_1 : decode cX2_aloneSteps 1 = .ok (.iload_n 1, 1) := by decide +kernel
theorem dX2_aloneSteps_2 : decode cX2_aloneSteps 2 = .ok (.invokevirtual 118, 3) := by decide +kernel
theorem dX2_aloneSteps_5 : decode cX2_aloneSteps 5 = .ok (.aload_n 0, 1) := by decide +kernel
theorem dX2_aloneSteps_6 : decode cX2_aloneSteps 6 = .ok (.getfield 37, 3) := by decide +kernel
theorem dX2_aloneSteps_9 : decode cX2_aloneSteps 9 = .ok (.iload_n 2, 1) := by decide +kernel
theorem dX2_aloneSteps_10 : decode cX2_aloneSteps 10 = .ok (.iaload, 1) := by decide +kernel
theorem dX2_aloneSteps_11 : decode cX2_aloneSteps 11 = .ok (.aload_n 0, 1) := by decide +kernel
theorem dX2_aloneSteps_12 : decode cX2_aloneSteps 12 = .ok (.getfield 43, 3) := by decide +kernel
theorem dX2_aloneSteps_15 : decode cX2_aloneSteps 15 = .ok (.iload_n 1, 1) := by decide +kernel
theorem dX2_aloneSteps_16 : decode cX2_aloneSteps 16 = .ok (.iaload, 1) := by decide +kernel
theorem dX2_aloneSteps_17 : decode cX2_aloneSteps 17 = .ok (.aload_n 0, 1) := by decide +kernel
theorem dX2_aloneSteps_18 : decode cX2_aloneSteps 18 = .ok (.getfield 46, 3) := by decide +kernel
theorem dX2_aloneSteps_21 : decode cX2_aloneSteps 21 = .ok (.iload_n 1, 1) := by decide +kernel
theorem dX2_aloneSteps_22 : decode cX2_aloneSteps 22 = .ok (.iaload, 1) := by decide +kernel
theorem dX2_aloneSteps_23 : decode cX2_aloneSteps 23 = .ok (.invokevirtual 122, 3) := by decide +kernel
theorem dX2_aloneSteps_26 : decode cX2_aloneSteps 26 = .ok (.ireturn, 1) := by decide +kernel
set_option maxRecDepth 20000 in
theorem ggX2_stepsWithLies_X2_clerk : GoodIn wsX2_stepsWithLies wsX2_clerk := goodIn_r _ [8, 9, 10, 42, 43, 44, 45, 46, 47, 48, 49, 50, 51, 52, 53, 54, 55, 56, 57, 58, 59] (by decide +kernel) (by decide +kernel)
set_option maxRecDepth 20000 in
theorem gX2_stepsWithLies_X2_clerk : GoodIn wsX2_stepsWithLies (wsV RX2 118 RX2 yX2_clerk wsX2_clerk) := goodIn_app (goodIn_of _ (by decide +kernel)) ggX2_stepsWithLies_X2_clerk
set_option maxRecDepth 20000 in
theorem ggX2_stepsWithLies_X0_yards : GoodIn wsX2_stepsWithLies wsX0_yards := goodIn_r _ [17, 18, 12, 19, 20, 21, 22] (by decide +kernel) (by decide +kernel)
set_option maxRecDepth 20000 in
theorem gX2_stepsWithLies_X0_yards_u122X0 : GoodIn wsX2_stepsWithLies (va_wsO RX2 122 RX0 "ShameYards$Clerk" ⟨"ShameYards$Clerk", "yards", "(III)I"⟩ yX0_yards wsX0_yards) := goodIn_app (goodIn_of _ (by decide +kernel)) ggX2_stepsWithLies_X0_yards
set_option maxRecDepth 20000 in
theorem ggX2_stepsWithLies_X1_yards : GoodIn wsX2_stepsWithLies wsX1_yards := goodIn_r _ [22] (by decide +kernel) (by decide +kernel)
set_option maxRecDepth 20000 in
theorem gX2_stepsWithLies_X1_yards : GoodIn wsX2_stepsWithLies (wsV RX2 122 RX1 yX1_yards wsX1_yards) := goodIn_app (goodIn_of _ (by decide +kernel)) ggX2_stepsWithLies_X1_yards
set_option maxRecDepth 20000 in
theorem ggX2_stepsWithLies_X3_yards : GoodIn wsX2_stepsWithLies wsX3_yards := goodIn_r _ [28, 29, 30, 31, 32, 33, 34] (by decide +kernel) (by decide +kernel)
set_option maxRecDepth 20000 in
theorem gX2_stepsWithLies_X3_yards_u122X3 : GoodIn wsX2_stepsWithLies (va_wsO RX2 122 RX3 "ShameYards$Clerk" ⟨"ShameYards$Clerk", "yards", "(III)I"⟩ yX3_yards wsX3_yards) := goodIn_app (goodIn_of _ (by decide +kernel)) ggX2_stepsWithLies_X3_yards
set_option maxRecDepth 20000 in
theorem ggX2_stepsWithLies_X4_yards : GoodIn wsX2_stepsWithLies wsX4_yards := goodIn_r _ [34] (by decide +kernel) (by decide +kernel)
set_option maxRecDepth 20000 in
theorem gX2_stepsWithLies_X4_yards_u122X4 : GoodIn wsX2_stepsWithLies (va_wsO RX2 122 RX4 "ShameYards$Clerk" ⟨"ShameYards$Clerk", "yards", "(III)I"⟩ yX4_yards wsX4_yards) := goodIn_app (goodIn_of _ (by decide +kernel)) ggX2_stepsWithLies_X4_yards
set_option maxRecDepth 20000 in
theorem ggX2_stepsWithLies_X10_yards : GoodIn wsX2_stepsWithLies wsX10_yards := goodIn_r _ [39, 40, 12, 41, 20, 21, 22] (by decide +kernel) (by decide +kernel)
set_option maxRecDepth 20000 in
theorem gX2_stepsWithLies_X10_yards_u122X10 : GoodIn wsX2_stepsWithLies (va_wsO RX2 122 RX10 "ShameYards$Clerk" ⟨"ShameYards$Clerk", "yards", "(III)I"⟩ yX10_yards wsX10_yards) := goodIn_app (goodIn_of _ (by decide +kernel)) ggX2_stepsWithLies_X10_yards
theorem dX2_stepsWithLies_0 : decode cX2_stepsWithLies 0 = .ok (.aload_n 0, 1) := by decide +kernel
theorem dX2_stepsWithLies_1 : decode cX2_stepsWithLies 1 = .ok (.getfield 37, 3) := by decide +kernel
theorem dX2_stepsWithLies_4 : decode cX2_stepsWithLies 4 = .ok (.iload_n 2, 1) := by decide +kernel
theorem dX2_stepsWithLies_5 : decode cX2_stepsWithLies 5 = .ok (.iaload, 1) := by decide +kernel
theorem dX2_stepsWithLies_6 : decode cX2_stepsWithLies 6 = .ok (.istore 5, 2) := by decide +kernel
theorem dX2_stepsWithLies_8 : decode cX2_stepsWithLies 8 = .ok (.aload_n 0, 1) := by decide +kernel
theorem dX2_stepsWithLies_9 : decode cX2_stepsWithLies 9 = .ok (.iload_n 1, 1) := by decide +kernel
theorem dX2_stepsWithLies_10 : decode cX2_stepsWithLies 10 = .ok (.invokevirtual 118, 3) := by decide +kernel
theorem dX2_stepsWithLies_13 : decode cX2_stepsWithLies 13 = .ok (.iload 5, 2) := by decide +kernel
theorem dX2_stepsWithLies_15 : decode cX2_stepsWithLies 15 = .ok (.aload_n 0, 1) := by decide +kernel
theorem dX2_stepsWithLies_16 : decode cX2_stepsWithLies 16 = .ok (.getfield 43, 3) := by decide +kernel
theorem dX2_stepsWithLies_19 : decode cX2_stepsWithLies 19 = .ok (.iload_n 1, 1) := by decide +kernel
theorem dX2_stepsWithLies_20 : decode cX2_stepsWithLies 20 = .ok (.iaload, 1) := by decide +kernel
theorem dX2_stepsWithLies_21 : decode cX2_stepsWithLies 21 = .ok (.iload 4, 2) := by decide +kernel
theorem dX2_stepsWithLies_23 : decode cX2_stepsWithLies 23 = .ok (.invokevirtual 122, 3) := by decide +kernel
theorem dX2_stepsWithLies_26 : decode cX2_stepsWithLies 26 = .ok (.istore 6, 2) := by decide +kernel
theorem dX2_stepsWithLies_28 : decode cX2_stepsWithLies 28 = .ok (.iload_n 3, 1) := by decide +kernel
theorem dX2_stepsWithLies_29 : decode cX2_stepsWithLies 29 = .ok (.iconst (-1), 1) := by decide +kernel
theorem dX2_stepsWithLies_30 : decode cX2_stepsWithLies 30 = .ok (.if_icmp .ne 6, 3) := by decide +kernel
theorem dX2_stepsWithLies_33 : decode cX2_stepsWithLies 33 = .ok (.iload 6, 2) := by decide +kernel
theorem dX2_stepsWithLies_35 : decode cX2_stepsWithLies 35 = .ok (.ireturn, 1) := by decide +kernel
theorem dX2_stepsWithLies_36 : decode cX2_stepsWithLies 36 = .ok (.iload 6, 2) := by decide +kernel
theorem dX2_stepsWithLies_38 : decode cX2_stepsWithLies 38 = .ok (.aload_n 0, 1) := by decide +kernel
theorem dX2_stepsWithLies_39 : decode cX2_stepsWithLies 39 = .ok (.iload_n 3, 1) := by decide +kernel
theorem dX2_stepsWithLies_40 : decode cX2_stepsWithLies 40 = .ok (.invokevirtual 118, 3) := by decide +kernel
theorem dX2_stepsWithLies_43 : decode cX2_stepsWithLies 43 = .ok (.iload 5, 2) := by decide +kernel
theorem dX2_stepsWithLies_45 : decode cX2_stepsWithLies 45 = .ok (.aload_n 0, 1) := by decide +kernel
theorem dX2_stepsWithLies_46 : decode cX2_stepsWithLies 46 = .ok (.getfield 43, 3) := by decide +kernel
theorem dX2_stepsWithLies_49 : decode cX2_stepsWithLies 49 = .ok (.iload_n 3, 1) := by decide +kernel
theorem dX2_stepsWithLies_50 : decode cX2_stepsWithLies 50 = .ok (.iaload, 1) := by decide +kernel
theorem dX2_stepsWithLies_51 : decode cX2_stepsWithLies 51 = .ok (.aload_n 0, 1) := by decide +kernel
theorem dX2_stepsWithLies_52 : decode cX2_stepsWithLies 52 = .ok (.getfield 46, 3) := by decide +kernel
theorem dX2_stepsWithLies_55 : decode cX2_stepsWithLies 55 = .ok (.iload_n 3, 1) := by decide +kernel
theorem dX2_stepsWithLies_56 : decode cX2_stepsWithLies 56 = .ok (.iaload, 1) := by decide +kernel
theorem dX2_stepsWithLies_57 : decode cX2_stepsWithLies 57 = .ok (.invokevirtual 122, 3) := by decide +kernel
theorem dX2_stepsWithLies_60 : decode cX2_stepsWithLies 60 = .ok (.iadd, 1) := by decide +kernel
theorem dX2_stepsWithLies_61 : decode cX2_stepsWithLies 61 = .ok (.iconst 1, 1) := by decide +kernel
theorem dX2_stepsWithLies_62 : decode cX2_stepsWithLies 62 = .ok (.iadd, 1) := by decide +kernel
theorem dX2_stepsWithLies_63 : decode cX2_stepsWithLies 63 = .ok (.iconst 2, 1) := by decide +kernel
theorem dX2_stepsWithLies_64 : decode cX2_stepsWithLies 64 = .ok (.idiv, 1) := by decide +kernel
theorem dX2_stepsWithLies_65 : decode cX2_stepsWithLies 65 = .ok (.ireturn, 1) := by decide +kernel
set_option maxRecDepth 20000 in
theorem ggX2_stepsOf_X2_stepsWithLies : GoodIn wsX2_stepsOf wsX2_stepsWithLies := goodIn_r _ [6, 7, 8, 1, 9, 10, 11, 5, 12, 13, 14, 15, 16, 17, 18, 19, 20, 21, 22, 23, 24, 25, 26, 27, 28, 29, 30, 31, 32, 33, 34, 35, 36, 37, 38, 39, 40, 41, 42, 43, 44, 45, 46, 47, 48, 49, 50, 51, 52, 53, 54, 55, 56, 57, 58, 59, 60, 61, 62, 63] (by decide +kernel) (by decide +kernel)
set_option maxRecDepth 20000 in
theorem gX2_stepsOf_X2_stepsWithLies : GoodIn wsX2_stepsOf (wsV RX2 126 RX2 yX2_stepsWithLies wsX2_stepsWithLies) := goodIn_app (goodIn_of _ (by decide +kernel)) ggX2_stepsOf_X2_stepsWithLies
theorem dX2_stepsOf_0 : decode cX2_stepsOf 0 = .ok (.aload_n 0, 1) := by decide +kernel
theorem dX2_stepsOf_1 : decode cX2_stepsOf 1 = .ok (.iload_n 1, 1) := by decide +kernel
theorem dX2_stepsOf_2 : decode cX2_stepsOf 2 = .ok (.iload_n 2, 1) := by decide +kernel
theorem dX2_stepsOf_3 : decode cX2_stepsOf 3 = .ok (.iload_n 3, 1) := by decide +kernel
theorem dX2_stepsOf_4 : decode cX2_stepsOf 4 = .ok (.aload_n 0, 1) := by decide +kernel
theorem dX2_stepsOf_5 : decode cX2_stepsOf 5 = .ok (.getfield 46, 3) := by decide +kernel
theorem dX2_stepsOf_8 : decode cX2_stepsOf 8 = .ok (.iload_n 1, 1) := by decide +kernel
theorem dX2_stepsOf_9 : decode cX2_stepsOf 9 = .ok (.iaload, 1) := by decide +kernel
theorem dX2_stepsOf_10 : decode cX2_stepsOf 10 = .ok (.invokevirtual 126, 3) := by decide +kernel
theorem dX2_stepsOf_13 : decode cX2_stepsOf 13 = .ok (.ireturn, 1) := by decide +kernel
theorem dX2_endsAt_0 : decode cX2_endsAt 0 = .ok (.aload_n 0, 1) := by decide +kernel
theorem dX2_endsAt_1 : decode cX2_endsAt 1 = .ok (.getfield 30, 3) := by decide +kernel
theorem dX2_endsAt_4 : decode cX2_endsAt 4 = .ok (.iload_n 1, 1) := by decide +kernel
theorem dX2_endsAt_5 : decode cX2_endsAt 5 = .ok (.iaload, 1) := by decide +kernel
theorem dX2_endsAt_6 : decode cX2_endsAt 6 = .ok (.iload_n 2, 1) := by decide +kernel
theorem dX2_endsAt_7 : decode cX2_endsAt 7 = .ok (.if_icmp .eq 13, 3) := by decide +kernel
theorem dX2_endsAt_10 : decode cX2_endsAt 10 = .ok (.aload_n 0, 1) := by decide +kernel
theorem dX2_endsAt_11 : decode cX2_endsAt 11 = .ok (.getfield 34, 3) := by decide +kernel
theorem dX2_endsAt_14 : decode cX2_endsAt 14 = .ok (.iload_n 1, 1) := by decide +kernel
theorem dX2_endsAt_15 : decode cX2_endsAt 15 = .ok (.iaload, 1) := by decide +kernel
theorem dX2_endsAt_16 : decode cX2_endsAt 16 = .ok (.iload_n 2, 1) := by decide +kernel
theorem dX2_endsAt_17 : decode cX2_endsAt 17 = .ok (.if_icmp .ne 7, 3) := by decide +kernel
theorem dX2_endsAt_20 : decode cX2_endsAt 20 = .ok (.iconst 1, 1) := by decide +kernel
theorem dX2_endsAt_21 : decode cX2_endsAt 21 = .ok (.goto 4, 3) := by decide +kernel
theorem dX2_endsAt_24 : decode cX2_endsAt 24 = .ok (.iconst 0, 1) := by decide +kernel
theorem dX2_endsAt_25 : decode cX2_endsAt 25 = .ok (.ireturn, 1) := by decide +kernel
theorem dX2_across_0 : decode cX2_across 0 = .ok (.aload_n 0, 1) := by decide +kernel
theorem dX2_across_1 : decode cX2_across 1 = .ok (.getfield 30, 3) := by decide +kernel
theorem dX2_across_4 : decode cX2_across 4 = .ok (.iload_n 1, 1) := by decide +kernel
theorem dX2_across_5 : decode cX2_across 5 = .ok (.iaload, 1) := by decide +kernel
theorem dX2_across_6 : decode cX2_across 6 = .ok (.iload_n 2, 1) := by decide +kernel
theorem dX2_across_7 : decode cX2_across 7 = .ok (.if_icmp .ne 12, 3) := by decide +kernel
theorem dX2_across_10 : decode cX2_across 10 = .ok (.aload_n 0, 1) := by decide +kernel
theorem dX2_across_11 : decode cX2_across 11 = .ok (.getfield 34, 3) := by decide +kernel
theorem dX2_across_14 : decode cX2_across 14 = .ok (.iload_n 1, 1) := by decide +kernel
theorem dX2_across_15 : decode cX2_across 15 = .ok (.iaload, 1) := by decide +kernel
theorem dX2_across_16 : decode cX2_across 16 = .ok (.goto 9, 3) := by decide +kernel
theorem dX2_across_19 : decode cX2_across 19 = .ok (.aload_n 0, 1) := by decide +kernel
theorem dX2_across_20 : decode cX2_across 20 = .ok (.getfield 30, 3) := by decide +kernel
theorem dX2_across_23 : decode cX2_across 23 = .ok (.iload_n 1, 1) := by decide +kernel
theorem dX2_across_24 : decode cX2_across 24 = .ok (.iaload, 1) := by decide +kernel
theorem dX2_across_25 : decode cX2_across 25 = .ok (.ireturn, 1) := by decide +kernel
set_option maxRecDepth 20000 in
theorem ggX2_doorsOf_X2_endsAt : GoodIn wsX2_doorsOf wsX2_endsAt := goodIn_r _ [6, 7, 8, 9, 10, 11, 12, 13, 14, 15, 16, 17, 18, 19, 20, 21, 22, 23, 24, 25, 26] (by decide +kernel) (by decide +kernel)
set_option maxRecDepth 20000 in
theorem gX2_doorsOf_X2_endsAt : GoodIn wsX2_doorsOf (wsV RX2 130 RX2 yX2_endsAt wsX2_endsAt) := goodIn_app (goodIn_of _ (by decide +kernel)) ggX2_doorsOf_X2_endsAt
theorem dX2_doorsOf_0 : decode cX2_doorsOf 0 = .ok (.iconst 0, 1) := by decide +kernel
theorem dX2_doorsOf_1 : decode cX2_doorsOf 1 = .ok (.istore_n 2, 1) := by decide +kernel
theorem dX2_doorsOf_2 : decode cX2_doorsOf 2 = .ok (.iconst 0, 1) := by decide +kernel
theorem dX2_doorsOf_3 : decode cX2_doorsOf 3 = .ok (.istore_n 3, 1) := by decide +kernel
theorem dX2_doorsOf_4 : decode cX2_doorsOf 4 = .ok (.iload_n 3, 1) := by decide +kernel
theorem dX2_doorsOf_5 : decode cX2_doorsOf 5 = .ok (.aload_n 0, 1) := by decide +kernel
theorem dX2_doorsOf_6 : decode cX2_doorsOf 6 = .ok (.getfield 87, 3) := by decide +kernel
theorem dX2_doorsOf_9 : decode cX2_doorsOf 9 = .ok (.if_icmp .ge 21, 3) := by decide +kernel
theorem dX2_doorsOf_12 : decode cX2_doorsOf 12 = .ok (.aload_n 0, 1) := by decide +kernel
theorem dX2_doorsOf_13 : decode cX2_doorsOf 13 = .ok (.iload_n 3, 1) := by decide +kernel
theorem dX2_doorsOf_14 : decode cX2_doorsOf 14 = .ok (.iload_n 1, 1) := by decide +kernel
theorem dX2_doorsOf_15 : decode cX2_doorsOf 15 = .ok (.invokevirtual 130, 3) := by decide +kernel
theorem dX2_doorsOf_18 : decode cX2_doorsOf 18 = .ok (.ifCond .eq 6, 3) := by decide +kernel
theorem dX2_doorsOf_21 : decode cX2_doorsOf 21 = .ok (.iinc 2 1, 3) := by decide +kernel
theorem dX2_doorsOf_24 : decode cX2_doorsOf 24 = .ok (.iinc 3 1, 3) := by decide +kernel
theorem dX2_doorsOf_27 : decode cX2_doorsOf 27 = .ok (.goto (-23), 3) := by decide +kernel
theorem dX2_doorsOf_30 : decode cX2_doorsOf 30 = .ok (.iload_n 2, 1) := by decide +kernel
theorem dX2_doorsOf_31 : decode cX2_doorsOf 31 = .ok (.ireturn, 1) := by decide +kernel
set_option maxRecDepth 20000 in
theorem ggX2_doorOf_X2_endsAt : GoodIn wsX2_doorOf wsX2_endsAt := goodIn_r _ [6, 7, 8, 9, 10, 11, 12, 13, 14, 15, 16, 17, 18, 19, 20, 21, 22, 23, 24, 25, 26] (by decide +kernel) (by decide +kernel)
set_option maxRecDepth 20000 in
theorem gX2_doorOf_X2_endsAt : GoodIn wsX2_doorOf (wsV RX2 130 RX2 yX2_endsAt wsX2_endsAt) := goodIn_app (goodIn_of _ (by decide +kernel)) ggX2_doorOf_X2_endsAt
theorem dX2_doorOf_0 : decode cX2_doorOf 0 = .ok (.iload_n 2, 1) := by decide +kernel
theorem dX2_doorOf_1 : decode cX2_doorOf 1 = .ok (.istore_n 3, 1) := by decide +kernel
theorem dX2_doorOf_2 : decode cX2_doorOf 2 = .ok (.iconst 0, 1) := by decide +kernel
theorem dX2_doorOf_3 : decode cX2_doorOf 3 = .ok (.istore 4, 2) := by decide +kernel
theorem dX2_doorOf_5 : decode cX2_doorOf 5 = .ok (.iload 4, 2) := by decide +kernel
theorem dX2_doorOf_7 : decode cX2_doorOf 7 = .ok (.aload_n 0, 1) := by decide +kernel
theorem dX2_doorOf_8 : decode cX2_doorOf 8 = .ok (.getfield 87, 3) := by decide +kernel
theorem dX2_doorOf_11 : decode cX2_doorOf 11 = .ok (.if_icmp .ge 29, 3) := by decide +kernel
theorem dX2_doorOf_14 : decode cX2_doorOf 14 = .ok (.aload_n 0, 1) := by decide +kernel
theorem dX2_doorOf_15 : decode cX2_doorOf 15 = .ok (.iload 4, 2) := by decide +kernel
theorem dX2_doorOf_17 : decode cX2_doorOf 17 = .ok (.iload_n 1, 1) := by decide +kernel
theorem dX2_doorOf_18 : decode cX2_doorOf 18 = .ok (.invokevirtual 130, 3) := by decide +kernel
theorem dX2_doorOf_21 : decode cX2_doorOf 21 = .ok (.ifCond .eq 13, 3) := by decide +kernel
theorem dX2_doorOf_24 : decode cX2_doorOf 24 = .ok (.iload_n 3, 1) := by decide +kernel
theorem dX2_doorOf_25 : decode cX2_doorOf 25 = .ok (.ifCond .ne 6, 3) := by decide +kernel
theorem dX2_doorOf_28 : decode cX2_doorOf 28 = .ok (.iload 4, 2) := by decide +kernel
theorem dX2_doorOf_30 : decode cX2_doorOf 30 = .ok (.ireturn, 1) := by decide +kernel
theorem dX2_doorOf_31 : decode cX2_doorOf 31 = .ok (.iinc 3 (-1), 3) := by decide +kernel
theorem dX2_doorOf_34 : decode cX2_doorOf 34 = .ok (.iinc 4 1, 3) := by decide +kernel
theorem dX2_doorOf_37 : decode cX2_doorOf 37 = .ok (.goto (-32), 3) := by decide +kernel
theorem dX2_doorOf_40 : decode cX2_doorOf 40 = .ok (.iconst (-1), 1) := by decide +kernel
theorem dX2_doorOf_41 : decode cX2_doorOf 41 = .ok (.ireturn, 1) := by decide +kernel
set_option maxRecDepth 20000 in
theorem ggX2_mayLeaveBy_X2_endsAt : GoodIn wsX2_mayLeaveBy wsX2_endsAt := goodIn_r _ [6, 7, 8, 9, 10, 11, 12, 13, 14, 15, 16, 17, 18, 19, 20, 21, 22, 23, 24, 25, 26] (by decide +kernel) (by decide +kernel)
set_option maxRecDepth 20000 in
theorem gX2_mayLeaveBy_X2_endsAt : GoodIn wsX2_mayLeaveBy (wsV RX2 130 RX2 yX2_endsAt wsX2_endsAt) := goodIn_app (goodIn_of _ (by decide +kernel)) ggX2_mayLeaveBy_X2_endsAt
theorem dX2_mayLeaveBy_0 : decode cX2_mayLeaveBy 0 = .ok (.aload_n 0, 1) := by decide +kernel
theorem dX2_mayLeaveBy_1 : decode cX2_mayLeaveBy 1 = .ok (.iload_n 2, 1) := by decide +kernel
theorem dX2_mayLeaveBy_2 : decode cX2_mayLeaveBy 2 = .ok (.aload_n 0, 1) := by decide +kernel
theorem dX2_mayLeaveBy_3 : decode cX2_mayLeaveBy 3 = .ok (.getfield 49, 3) := by decide +kernel
theorem dX2_mayLeaveBy_6 : decode cX2_mayLeaveBy 6 = .ok (.iload_n 1, 1) := by decide +kernel
theorem dX2_mayLeaveBy_7 : decode cX2_mayLeaveBy 7 = .ok (.iaload, 1) := by decide +kernel
theorem dX2_mayLeaveBy_8 : decode cX2_mayLeaveBy 8 = .ok (.invokevirtual 130, 3) := by decide +kernel
theorem dX2_mayLeaveBy_11 : decode cX2_mayLeaveBy 11 = .ok (.ifCond .eq 27, 3) := by decide +kernel
theorem dX2_mayLeaveBy_14 : decode cX2_mayLeaveBy 14 = .ok (.iload_n 3, 1) := by decide +kernel
theorem dX2_mayLeaveBy_15 : decode cX2_mayLeaveBy 15 = .ok (.iconst (-1), 1) := by decide +kernel
theorem dX2_mayLeaveBy_16 : decode cX2_mayLeaveBy 16 = .ok (.if_icmp .eq 18, 3) := by decide +kernel
theorem dX2_mayLeaveBy_19 : decode cX2_mayLeaveBy 19 = .ok (.aload_n 0, 1) := by decide +kernel
theorem dX2_mayLeaveBy_20 : decode cX2_mayLeaveBy 20 = .ok (.getfield 49, 3) := by decide +kernel
theorem dX2_mayLeaveBy_23 : decode cX2_mayLeaveBy 23 = .ok (.iload_n 3, 1) := by decide +kernel
theorem dX2_mayLeaveBy_24 : decode cX2_mayLeaveBy 24 = .ok (.iaload, 1) := by decide +kernel
theorem dX2_mayLeaveBy_25 : decode cX2_mayLeaveBy 25 = .ok (.aload_n 0, 1) := by decide +kernel
theorem dX2_mayLeaveBy_26 : decode cX2_mayLeaveBy 26 = .ok (.getfield 49, 3) := by decide +kernel
theorem dX2_mayLeaveBy_29 : decode cX2_mayLeaveBy 29 = .ok (.iload_n 1, 1) := by decide +kernel
theorem dX2_mayLeaveBy_30 : decode cX2_mayLeaveBy 30 = .ok (.iaload, 1) := by decide +kernel
theorem dX2_mayLeaveBy_31 : decode cX2_mayLeaveBy 31 = .ok (.if_icmp .ne 7, 3) := by decide +kernel
theorem dX2_mayLeaveBy_34 : decode cX2_mayLeaveBy 34 = .ok (.iconst 1, 1) := by decide +kernel
theorem dX2_mayLeaveBy_35 : decode cX2_mayLeaveBy 35 = .ok (.goto 4, 3) := by decide +kernel
theorem dX2_mayLeaveBy_38 : decode cX2_mayLeaveBy 38 = .ok (.iconst 0, 1) := by decide +kernel
theorem dX2_mayLeaveBy_39 : decode cX2_mayLeaveBy 39 = .ok (.ireturn, 1) := by decide +kernel
set_option maxRecDepth 20000 in
theorem ggX2_walk_X2_stepsOf : GoodIn wsX2_walk wsX2_stepsOf := goodIn_r _ [8, 9, 10, 11, 12, 7, 13, 14, 15, 16, 17, 18, 19, 20, 21, 22, 23, 24, 25, 26, 27, 28, 29, 30, 31, 32, 33, 34, 35, 36, 37, 38, 39, 40, 41, 42, 43, 44, 45, 46, 47, 48, 49, 50, 51, 52, 59, 60, 61, 62, 63, 64, 65, 66, 67, 68, 69, 70, 71, 72, 73, 74, 75, 76] (by decide +kernel) (by decide +kernel)
set_option maxRecDepth 20000 in
theorem gX2_walk_X2_stepsOf : GoodIn wsX2_walk (wsV RX2 134 RX2 yX2_stepsOf wsX2_stepsOf) := goodIn_app (goodIn_of _ (by decide +kernel)) ggX2_walk_X2_stepsOf
set_option maxRecDepth 20000 in
theorem ggX2_walk_X2_across : GoodIn wsX2_walk wsX2_across := goodIn_r _ [56, 57, 58, 59, 60, 61, 62, 63, 64, 65, 66, 67, 68, 69, 70, 71, 72, 73, 74, 75, 76] (by decide +kernel) (by decide +kernel)
set_option maxRecDepth 20000 in
theorem gX2_walk_X2_across : GoodIn wsX2_walk (wsV RX2 137 RX2 yX2_across wsX2_across) := goodIn_app (goodIn_of _ (by decide +kernel)) ggX2_walk_X2_across
theorem dX2_walk_0 : decode cX2_walk 0 = .ok (.aload_n 0, 1) := by decide +kernel
theorem dX2_walk_1 : decode cX2_walk 1 = .ok (.iload_n 1, 1) := by decide +kernel
theorem dX2_walk_2 : decode cX2_walk 2 = .ok (.iload_n 2, 1) := by decide +kernel
theorem dX2_walk_3 : decode cX2_walk 3 = .ok (.iload_n 3, 1) := by decide +kernel
theorem dX2_walk_4 : decode cX2_walk 4 = .ok (.invokevirtual 134, 3) := by decide +kernel
theorem dX2_walk_7 : decode cX2_walk 7 = .ok (.istore 4, 2) := by decide +kernel
theorem dX2_walk_9 : decode cX2_walk 9 = .ok (.aload_n 0, 1) := by decide +kernel
theorem dX2_walk_10 : decode cX2_walk 10 = .ok (.iload_n 2, 1) := by decide +kernel
theorem dX2_walk_11 : decode cX2_walk 11 = .ok (.aload_n 0, 1) := by decide +kernel
theorem dX2_walk_12 : decode cX2_walk 12 = .ok (.getfield 49, 3) := by decide +kernel
theorem dX2_walk_15 : decode cX2_walk 15 = .ok (.iload_n 1, 1) := by decide +kernel
theorem dX2_walk_16 : decode cX2_walk 16 = .ok (.iaload, 1) := by decide +kernel
theorem dX2_walk_17 : decode cX2_walk 17 = .ok (.invokevirtual 137, 3) := by decide +kernel
theorem dX2_walk_20 : decode cX2_walk 20 = .ok (.istore 5, 2) := by decide +kernel
theorem dX2_walk_22 : decode cX2_walk 22 = .ok (.aload_n 0, 1) := by decide +kernel
theorem dX2_walk_23 : decode cX2_walk 23 = .ok (.getfield 49, 3) := by decide +kernel
theorem dX2_walk_26 : decode cX2_walk 26 = .ok (.iload_n 1, 1) := by decide +kernel
theorem dX2_walk_27 : decode cX2_walk 27 = .ok (.iload 5, 2) := by decide +kernel
theorem dX2_walk_29 : decode cX2_walk 29 = .ok (.iastore, 1) := by decide +kernel
theorem dX2_walk_30 : decode cX2_walk 30 = .ok (.aload_n 0, 1) := by decide +kernel
theorem dX2_walk_31 : decode cX2_walk 31 = .ok (.getfield 52, 3) := by decide +kernel
theorem dX2_walk_34 : decode cX2_walk 34 = .ok (.iload_n 1, 1) := by decide +kernel
theorem dX2_walk_35 : decode cX2_walk 35 = .ok (.dup2, 1) := by decide +kernel
theorem dX2_walk_36 : decode cX2_walk 36 = .ok (.iaload, 1) := by decide +kernel
theorem dX2_walk_37 : decode cX2_walk 37 = .ok (.iload 4, 2) := by decide +kernel
theorem dX2_walk_39 : decode cX2_walk 39 = .ok (.iadd, 1) := by decide +kernel
theorem dX2_walk_40 : decode cX2_walk 40 = .ok (.iastore, 1) := by decide +kernel
theorem dX2_walk_41 : decode cX2_walk 41 = .ok (.iload_n 3, 1) := by decide +kernel
theorem dX2_walk_42 : decode cX2_walk 42 = .ok (.iconst (-1), 1) := by decide +kernel
theorem dX2_walk_43 : decode cX2_walk 43 = .ok (.if_icmp .eq 32, 3) := by decide +kernel
theorem dX2_walk_46 : decode cX2_walk 46 = .ok (.aload_n 0, 1) := by decide +kernel
theorem dX2_walk_47 : decode cX2_walk 47 = .ok (.getfield 49, 3) := by decide +kernel
theorem dX2_walk_50 : decode cX2_walk 50 = .ok (.iload_n 3, 1) := by decide +kernel
theorem dX2_walk_51 : decode cX2_walk 51 = .ok (.iload 5, 2) := by decide +kernel
theorem dX2_walk_53 : decode cX2_walk 53 = .ok (.iastore, 1) := by decide +kernel
theorem dX2_walk_54 : decode cX2_walk 54 = .ok (.aload_n 0, 1) := by decide +kernel
theorem dX2_walk_55 : decode cX2_walk 55 = .ok (.getfield 52, 3) := by decide +kernel
theorem dX2_walk_58 : decode cX2_walk 58 = .ok (.iload_n 3, 1) := by decide +kernel
theorem dX2_walk_59 : decode cX2_walk 59 = .ok (.dup2, 1) := by decide +kernel
theorem dX2_walk_60 : decode cX2_walk 60 = .ok (.iaload, 1) := by decide +kernel
theorem dX2_walk_61 : decode cX2_walk 61 = .ok (.iload 4, 2) := by decide +kernel
theorem dX2_walk_63 : decode cX2_walk 63 = .ok (.iadd, 1) := by decide +kernel
theorem dX2_walk_64 : decode cX2_walk 64 = .ok (.iastore, 1) := by decide +kernel
theorem dX2_walk_65 : decode cX2_walk 65 = .ok (.aload_n 0, 1) := by decide +kernel
theorem dX2_walk_66 : decode cX2_walk 66 = .ok (.dup, 1) := by decide +kernel
theorem dX2_walk_67 : decode cX2_walk 67 = .ok (.getfield 99, 3) := by decide +kernel
theorem dX2_walk_70 : decode cX2_walk 70 = .ok (.iconst 1, 1) := by decide +kernel
theorem dX2_walk_71 : decode cX2_walk 71 = .ok (.iadd, 1) := by decide +kernel
theorem dX2_walk_72 : decode cX2_walk 72 = .ok (.putfield 99, 3) := by decide +kernel
theorem dX2_walk_75 : decode cX2_walk 75 = .ok (.iload 4, 2) := by decide +kernel
theorem dX2_walk_77 : decode cX2_walk 77 = .ok (.ireturn, 1) := by decide +kernel
theorem dX2_note_0 : decode cX2_note 0 = .ok (.aload_n 0, 1) := by decide +kernel
theorem dX2_note_1 : decode cX2_note 1 = .ok (.getfield 102, 3) := by decide +kernel
theorem dX2_note_4 : decode cX2_note 4 = .ok (.bipush 6, 2) := by decide +kernel
theorem dX2_note_6 : decode cX2_note 6 = .ok (.if_icmp .ge 54, 3) := by decide +kernel
theorem dX2_note_9 : decode cX2_note 9 = .ok (.aload_n 0, 1) := by decide +kernel
theorem dX2_note_10 : decode cX2_note 10 = .ok (.getfield 55, 3) := by decide +kernel
theorem dX2_note_13 : decode cX2_note 13 = .ok (.aload_n 0, 1) := by decide +kernel
theorem dX2_note_14 : decode cX2_note 14 = .ok (.getfield 102, 3) := by decide +kernel
theorem dX2_note_17 : decode cX2_note 17 = .ok (.iload_n 1, 1) := by decide +kernel
theorem dX2_note_18 : decode cX2_note 18 = .ok (.iastore, 1) := by decide +kernel
theorem dX2_note_19 : decode cX2_note 19 = .ok (.aload_n 0, 1) := by decide +kernel
theorem dX2_note_20 : decode cX2_note 20 = .ok (.getfield 58, 3) := by decide +kernel
theorem dX2_note_23 : decode cX2_note 23 = .ok (.aload_n 0, 1) := by decide +kernel
theorem dX2_note_24 : decode cX2_note 24 = .ok (.getfield 102, 3) := by decide +kernel
theorem dX2_note_27 : decode cX2_note 27 = .ok (.iload_n 2, 1) := by decide +kernel
theorem dX2_note_28 : decode cX2_note 28 = .ok (.iastore, 1) := by decide +kernel
theorem dX2_note_29 : decode cX2_note 29 = .ok (.aload_n 0, 1) := by decide +kernel
theorem dX2_note_30 : decode cX2_note 30 = .ok (.getfield 61, 3) := by decide +kernel
theorem dX2_note_33 : decode cX2_note 33 = .ok (.aload_n 0, 1) := by decide +kernel
theorem dX2_note_34 : decode cX2_note 34 = .ok (.getfield 102, 3) := by decide +kernel
theorem dX2_note_37 : decode cX2_note 37 = .ok (.iload_n 3, 1) := by decide +kernel
theorem dX2_note_38 : decode cX2_note 38 = .ok (.iastore, 1) := by decide +kernel
theorem dX2_note_39 : decode cX2_note 39 = .ok (.aload_n 0, 1) := by decide +kernel
theorem dX2_note_40 : decode cX2_note 40 = .ok (.getfield 64, 3) := by decide +kernel
theorem dX2_note_43 : decode cX2_note 43 = .ok (.aload_n 0, 1) := by decide +kernel
theorem dX2_note_44 : decode cX2_note 44 = .ok (.getfield 102, 3) := by decide +kernel
theorem dX2_note_47 : decode cX2_note 47 = .ok (.iload 4, 2) := by decide +kernel
theorem dX2_note_49 : decode cX2_note 49 = .ok (.iastore, 1) := by decide +kernel
theorem dX2_note_50 : decode cX2_note 50 = .ok (.aload_n 0, 1) := by decide +kernel
theorem dX2_note_51 : decode cX2_note 51 = .ok (.dup, 1) := by decide +kernel
theorem dX2_note_52 : decode cX2_note 52 = .ok (.getfield 102, 3) := by decide +kernel
theorem dX2_note_55 : decode cX2_note 55 = .ok (.iconst 1, 1) := by decide +kernel
theorem dX2_note_56 : decode cX2_note 56 = .ok (.iadd, 1) := by decide +kernel
theorem dX2_note_57 : decode cX2_note 57 = .ok (.putfield 102, 3) := by decide +kernel
theorem dX2_note_60 : decode cX2_note 60 = .ok (.return_, 1) := by decide +kernel
theorem dX2_sumOfPeople_0 : decode cX2_sumOfPeople 0 = .ok (.iconst 0, 1) := by decide +kernel
theorem dX2_sumOfPeople_1 : decode cX2_sumOfPeople 1 = .ok (.istore_n 2, 1) := by decide +kernel
theorem dX2_sumOfPeople_2 : decode cX2_sumOfPeople 2 = .ok (.iconst 0, 1) := by decide +kernel
theorem dX2_sumOfPeople_3 : decode cX2_sumOfPeople 3 = .ok (.istore_n 3, 1) := by decide +kernel
theorem dX2_sumOfPeople_4 : decode cX2_sumOfPeople 4 = .ok (.iload_n 3, 1) := by decide +kernel
theorem dX2_sumOfPeople_5 : decode cX2_sumOfPeople 5 = .ok (.aload_n 0, 1) := by decide +kernel
theorem dX2_sumOfPeople_6 : decode cX2_sumOfPeople 6 = .ok (.getfield 93, 3) := by decide +kernel
theorem dX2_sumOfPeople_9 : decode cX2_sumOfPeople 9 = .ok (.if_icmp .ge 15, 3) := by decide +kernel
theorem dX2_sumOfPeople_12 : decode cX2_sumOfPeople 12 = .ok (.iload_n 2, 1) := by decide +kernel
theorem dX2_sumOfPeople_13 : decode cX2_sumOfPeople 13 = .ok (.aload_n 1, 1) := by decide +kernel
theorem dX2_sumOfPeople_14 : decode cX2_sumOfPeople 14 = .ok (.iload_n 3, 1) := by decide +kernel
theorem dX2_sumOfPeople_15 : decode cX2_sumOfPeople 15 = .ok (.iaload, 1) := by decide +kernel
theorem dX2_sumOfPeople_16 : decode cX2_sumOfPeople 16 = .ok (.iadd, 1) := by decide +kernel
theorem dX2_sumOfPeople_17 : decode cX2_sumOfPeople 17 = .ok (.istore_n 2, 1) := by decide +kernel
theorem dX2_sumOfPeople_18 : decode cX2_sumOfPeople 18 = .ok (.iinc 3 1, 3) := by decide +kernel
theorem dX2_sumOfPeople_21 : decode cX2_sumOfPeople 21 = .ok (.goto (-17), 3) := by decide +kernel
theorem dX2_sumOfPeople_24 : decode cX2_sumOfPeople 24 = .ok (.iload_n 2, 1) := by decide +kernel
theorem dX2_sumOfPeople_25 : decode cX2_sumOfPeople 25 = .ok (.ireturn, 1) := by decide +kernel
theorem dX2_peopleInRoomZero_0 : decode cX2_peopleInRoomZero 0 = .ok (.iconst 0, 1) := by decide +kernel
theorem dX2_peopleInRoomZero_1 : decode cX2_peopleInRoomZero 1 = .ok (.istore_n 1, 1) := by decide +kernel
theorem dX2_peopleInRoomZero_2 : decode cX2_peopleInRoomZero 2 = .ok (.iconst 0, 1) := by decide +kernel
theorem dX2_peopleInRoomZero_3 : decode cX2_peopleInRoomZero 3 = .ok (.istore_n 2, 1) := by decide +kernel
theorem dX2_peopleInRoomZero_4 : decode cX2_peopleInRoomZero 4 = .ok (.iload_n 2, 1) := by decide +kernel
theorem dX2_peopleInRoomZero_5 : decode cX2_peopleInRoomZero 5 = .ok (.aload_n 0, 1) := by decide +kernel
theorem dX2_peopleInRoomZero_6 : decode cX2_peopleInRoomZero 6 = .ok (.getfield 93, 3) := by decide +kernel
theorem dX2_peopleInRoomZero_9 : decode cX2_peopleInRoomZero 9 = .ok (.if_icmp .ge 21, 3) := by decide +kernel
theorem dX2_peopleInRoomZero_12 : decode cX2_peopleInRoomZero 12 = .ok (.aload_n 0, 1) := by decide +kernel
theorem dX2_peopleInRoomZero_13 : decode cX2_peopleInRoomZero 13 = .ok (.getfield 49, 3) := by decide +kernel
theorem dX2_peopleInRoomZero_16 : decode cX2_peopleInRoomZero 16 = .ok (.iload_n 2, 1) := by decide +kernel
theorem dX2_peopleInRoomZero_17 : decode cX2_peopleInRoomZero 17 = .ok (.iaload, 1) := by decide +kernel
theorem dX2_peopleInRoomZero_18 : decode cX2_peopleInRoomZero 18 = .ok (.ifCond .ne 6, 3) := by decide +kernel
theorem dX2_peopleInRoomZero_21 : decode cX2_peopleInRoomZero 21 = .ok (.iinc 1 1, 3) := by decide +kernel
theorem dX2_peopleInRoomZero_24 : decode cX2_peopleInRoomZero 24 = .ok (.iinc 2 1, 3) := by decide +kernel
theorem dX2_peopleInRoomZero_27 : decode cX2_peopleInRoomZero 27 = .ok (.goto (-23), 3) := by decide +kernel
theorem dX2_peopleInRoomZero_30 : decode cX2_peopleInRoomZero 30 = .ok (.iload_n 1, 1) := by decide +kernel
theorem dX2_peopleInRoomZero_31 : decode cX2_peopleInRoomZero 31 = .ok (.ireturn, 1) := by decide +kernel
set_option maxRecDepth 20000 in
theorem ggX3_init_X4_init : GoodIn wsX3_init wsX4_init := goodIn_r _ [3, 4, 5, 6, 7, 8, 9] (by decide +kernel) (by decide +kernel)
set_option maxRecDepth 20000 in
theorem gX3_init_X4_init_n1 : GoodIn wsX3_init (wsX4_init) := ggX3_init_X4_init
theorem dX3_init_0 : decode cX3_init 0 = .ok (.aload_n 0, 1) := by decide +kernel
theorem dX3_init_1 : decode cX3_init 1 = .ok (.invokespecial 1, 3) := by decide +kernel
theorem dX3_init_4 : decode cX3_init 4 = .ok (.return_, 1) := by decide +kernel
set_option maxRecDepth 20000 in
theorem ggX3_yards_X4_yards : GoodIn wsX3_yards wsX4_yards := goodIn_r _ [6] (by decide +kernel) (by decide +kernel)
set_option maxRecDepth 20000 in
theorem gX3_yards_X4_yards_s7 : GoodIn wsX3_yards (va_wsSU RX3 7 yX4_yards wsX4_yards) := goodIn_app (goodIn_of _ (by decide +kernel)) ggX3_yards_X4_yards
theorem dX3_yards_0 : decode cX3_yards 0 = .ok (.iconst 2, 1) := by decide +kernel
theorem dX3_yards_1 : decode cX3_yards 1 = .ok (.aload_n 0, 1) := by decide +kernel
theorem dX3_yards_2 : decode cX3_yards 2 = .ok (.iload_n 1, 1) := by decide +kernel
theorem dX3_yards_3 : decode cX3_yards 3 = .ok (.iload_n 2, 1) := by decide +kernel
theorem dX3_yards_4 : decode cX3_yards 4 = .ok (.iload_n 3, 1) := by decide +kernel
theorem dX3_yards_5 : decode cX3_yards 5 = .ok (.invokespecial 7, 3) := by decide +kernel
theorem dX3_yards_8 : decode cX3_yards 8 = .ok (.imul, 1) := by decide +kernel
theorem dX3_yards_9 : decode cX3_yards 9 = .ok (.ireturn, 1) := by decide +kernel
set_option maxRecDepth 20000 in
theorem ggX4_init_X1_init : GoodIn wsX4_init wsX1_init := goodIn_r _ [3, 4, 5, 6] (by decide +kernel) (by decide +kernel)
set_option maxRecDepth 20000 in
theorem gX4_init_X1_init_n1 : GoodIn wsX4_init (wsX1_init) := ggX4_init_X1_init
theorem dX4_init_0 : decode cX4_init 0 = .ok (.aload_n 0, 1) := by decide +kernel
theorem dX4_init_1 : decode cX4_init 1 = .ok (.invokespecial 1, 3) := by decide +kernel
theorem dX4_init_4 : decode cX4_init 4 = .ok (.return_, 1) := by decide +kernel
theorem dX4_yards_0 : decode cX4_yards 0 = .ok (.iload_n 1, 1) := by decide +kernel
theorem dX4_yards_1 : decode cX4_yards 1 = .ok (.iconst 3, 1) := by decide +kernel
theorem dX4_yards_2 : decode cX4_yards 2 = .ok (.iload_n 2, 1) := by decide +kernel
theorem dX4_yards_3 : decode cX4_yards 3 = .ok (.imul, 1) := by decide +kernel
theorem dX4_yards_4 : decode cX4_yards 4 = .ok (.iadd, 1) := by decide +kernel
theorem dX4_yards_5 : decode cX4_yards 5 = .ok (.iconst 2, 1) := by decide +kernel
theorem dX4_yards_6 : decode cX4_yards 6 = .ok (.iload_n 3, 1) := by decide +kernel
theorem dX4_yards_7 : decode cX4_yards 7 = .ok (.imul, 1) := by decide +kernel
theorem dX4_yards_8 : decode cX4_yards 8 = .ok (.iadd, 1) := by decide +kernel
theorem dX4_yards_9 : decode cX4_yards 9 = .ok (.ireturn, 1) := by decide +kernel
theorem dX5_init_0 : decode cX5_init 0 = .ok (.aload_n 0, 1) := by decide +kernel
theorem dX5_init_1 : decode cX5_init 1 = .ok (.invokespecial 3, 3) := by decide +kernel
theorem dX5_init_4 : decode cX5_init 4 = .ok (.aload_n 0, 1) := by decide +kernel
theorem dX5_init_5 : decode cX5_init 5 = .ok (.bipush 52, 2) := by decide +kernel
theorem dX5_init_7 : decode cX5_init 7 = .ok (.newarray .int, 2) := by decide +kernel
theorem dX5_init_9 : decode cX5_init 9 = .ok (.putfield 9, 3) := by decide +kernel
theorem dX5_init_12 : decode cX5_init 12 = .ok (.return_, 1) := by decide +kernel
theorem dX5_append_0 : decode cX5_append 0 = .ok (.aload_n 0, 1) := by decide +kernel
theorem dX5_append_1 : decode cX5_append 1 = .ok (.getfield 15, 3) := by decide +kernel
theorem dX5_append_4 : decode cX5_append 4 = .ok (.bipush 52, 2) := by decide +kernel
theorem dX5_append_6 : decode cX5_append 6 = .ok (.if_icmp .ge 23, 3) := by decide +kernel
theorem dX5_append_9 : decode cX5_append 9 = .ok (.aload_n 0, 1) := by decide +kernel
theorem dX5_append_10 : decode cX5_append 10 = .ok (.getfield 9, 3) := by decide +kernel
theorem dX5_append_13 : decode cX5_append 13 = .ok (.aload_n 0, 1) := by decide +kernel
theorem dX5_append_14 : decode cX5_append 14 = .ok (.getfield 15, 3) := by decide +kernel
theorem dX5_append_17 : decode cX5_append 17 = .ok (.iload_n 1, 1) := by decide +kernel
theorem dX5_append_18 : decode cX5_append 18 = .ok (.iastore, 1) := by decide +kernel
theorem dX5_append_19 : decode cX5_append 19 = .ok (.aload_n 0, 1) := by decide +kernel
theorem dX5_append_20 : decode cX5_append 20 = .ok (.dup, 1) := by decide +kernel
theorem dX5_append_21 : decode cX5_append 21 = .ok (.getfield 15, 3) := by decide +kernel
theorem dX5_append_24 : decode cX5_append 24 = .ok (.iconst 1, 1) := by decide +kernel
theorem dX5_append_25 : decode cX5_append 25 = .ok (.iadd, 1) := by decide +kernel
theorem dX5_append_26 : decode cX5_append 26 = .ok (.putfield 15, 3) := by decide +kernel
theorem dX5_append_29 : decode cX5_append 29 = .ok (.return_, 1) := by decide +kernel
theorem dX5_codeAt_0 : decode cX5_codeAt 0 = .ok (.iload_n 1, 1) := by decide +kernel
theorem dX5_codeAt_1 : decode cX5_codeAt 1 = .ok (.ifCond .lt 20, 3) := by decide +kernel
theorem dX5_codeAt_4 : decode cX5_codeAt 4 = .ok (.iload_n 1, 1) := by decide +kernel
theorem dX5_codeAt_5 : decode cX5_codeAt 5 = .ok (.aload_n 0, 1) := by decide +kernel
theorem dX5_codeAt_6 : decode cX5_codeAt 6 = .ok (.getfield 15, 3) := by decide +kernel
theorem dX5_codeAt_9 : decode cX5_codeAt 9 = .ok (.if_icmp .ge 12, 3) := by decide +kernel
theorem dX5_codeAt_12 : decode cX5_codeAt 12 = .ok (.aload_n 0, 1) := by decide +kernel
theorem dX5_codeAt_13 : decode cX5_codeAt 13 = .ok (.getfield 9, 3) := by decide +kernel
theorem dX5_codeAt_16 : decode cX5_codeAt 16 = .ok (.iload_n 1, 1) := by decide +kernel
theorem dX5_codeAt_17 : decode cX5_codeAt 17 = .ok (.iaload, 1) := by decide +kernel
theorem dX5_codeAt_18 : decode cX5_codeAt 18 = .ok (.goto 4, 3) := by decide +kernel
theorem dX5_codeAt_21 : decode cX5_codeAt 21 = .ok (.iconst 0, 1) := by decide +kernel
theorem dX5_codeAt_22 : decode cX5_codeAt 22 = .ok (.ireturn, 1) := by decide +kernel
set_option maxRecDepth 20000 in
theorem ggX5_digitAt_X5_codeAt : GoodIn wsX5_digitAt wsX5_codeAt := goodIn_r _ [5, 6, 7, 8, 9] (by decide +kernel) (by decide +kernel)
set_option maxRecDepth 20000 in
theorem gX5_digitAt_X5_codeAt : GoodIn wsX5_digitAt (wsV RX5 19 RX5 yX5_codeAt wsX5_codeAt) := goodIn_app (goodIn_of _ (by decide +kernel)) ggX5_digitAt_X5_codeAt
theorem dX5_digitAt_0 : decode cX5_digitAt 0 = .ok (.aload_n 0, 1) := by decide +kernel
theorem dX5_digitAt_1 : decode cX5_digitAt 1 = .ok (.iload_n 1, 1) := by decide +kernel
theorem dX5_digitAt_2 : decode cX5_digitAt 2 = .ok (.invokevirtual 19, 3) := by decide +kernel
theorem dX5_digitAt_5 : decode cX5_digitAt 5 = .ok (.bipush 48, 2) := by decide +kernel
theorem dX5_digitAt_7 : decode cX5_digitAt 7 = .ok (.isub, 1) := by decide +kernel
theorem dX5_digitAt_8 : decode cX5_digitAt 8 = .ok (.ireturn, 1) := by decide +kernel
set_option maxRecDepth 20000 in
theorem ggX5_kindAt_X5_codeAt : GoodIn wsX5_kindAt wsX5_codeAt := goodIn_r _ [5, 6, 7, 97, 98] (by decide +kernel) (by decide +kernel)
set_option maxRecDepth 20000 in
theorem gX5_kindAt_X5_codeAt : GoodIn wsX5_kindAt (wsV RX5 19 RX5 yX5_codeAt wsX5_codeAt) := goodIn_app (goodIn_of _ (by decide +kernel)) ggX5_kindAt_X5_codeAt
set_option maxRecDepth 20000 in
theorem ggX5_kindAt_J0_indexOf_0f7a4 : GoodIn wsX5_kindAt wsJ0_indexOf_0f7a4 := goodIn_r _ [12, 13, 14, 15, 11, 16, 17, 18, 19, 20, 21, 22, 23, 24, 25, 26, 27, 28, 29, 30, 31, 32, 33, 34, 35, 36, 37, 38, 39, 40, 41, 42, 43, 44, 45, 46, 47, 48, 49, 50, 51, 52, 53, 54, 55, 56, 57, 58, 59, 60, 61, 62, 63, 64, 65, 66, 67, 68, 69, 70, 71, 72, 73, 74, 75, 76, 77, 78, 79, 80, 81, 82, 83, 84, 85, 86, 87, 88, 89, 90, 91, 92, 93, 94, 95, 96] (by decide +kernel) (by decide +kernel)
set_option maxRecDepth 20000 in
theorem gX5_kindAt_J0_indexOf_0f7a4 : GoodIn wsX5_kindAt (wsV RX5 25 RJ0 yJ0_indexOf_0f7a4 wsJ0_indexOf_0f7a4) := goodIn_app (goodIn_of _ (by decide +kernel)) ggX5_kindAt_J0_indexOf_0f7a4
theorem dX5_kindAt_0 : decode cX5_kindAt 0 = .ok (.ldc 23, 2) := by decide +kernel
theorem dX5_kindAt_2 : decode cX5_kindAt 2 = .ok (.aload_n 0, 1) := by decide +kernel
theorem dX5_kindAt_3 : decode cX5_kindAt 3 = .ok (.iload_n 1, 1) := by decide +kernel
theorem dX5_kindAt_4 : decode cX5_kindAt 4 = .ok (.invokevirtual 19, 3) := by decide +kernel
theorem dX5_kindAt_7 : decode cX5_kindAt 7 = .ok (.i2c, 1) := by decide +kernel
theorem dX5_kindAt_8 : decode cX5_kindAt 8 = .ok (.invokevirtual 25, 3) := by decide +kernel
theorem dX5_kindAt_11 : decode cX5_kindAt 11 = .ok (.ireturn, 1) := by decide +kernel
theorem dX5_border_0 : decode cX5_border 0 = .ok (.iconst 5, 1) := by decide +kernel
theorem dX5_border_1 : decode cX5_border 1 = .ok (.istore_n 1, 1) := by decide +kernel
theorem dX5_border_2 : decode cX5_border 2 = .ok (.iload_n 1, 1) := by decide +kernel
theorem dX5_border_3 : decode cX5_border 3 = .ok (.aload_n 0, 1) := by decide +kernel
theorem dX5_border_4 : decode cX5_border 4 = .ok (.getfield 15, 3) := by decide +kernel
theorem dX5_border_7 : decode cX5_border 7 = .ok (.if_icmp .ge 22, 3) := by decide +kernel
theorem dX5_border_10 : decode cX5_border 10 = .ok (.aload_n 0, 1) := by decide +kernel
theorem dX5_border_11 : decode cX5_border 11 = .ok (.getfield 9, 3) := by decide +kernel
theorem dX5_border_14 : decode cX5_border 14 = .ok (.iload_n 1, 1) := by decide +kernel
theorem dX5_border_15 : decode cX5_border 15 = .ok (.iaload, 1) := by decide +kernel
theorem dX5_border_16 : decode cX5_border 16 = .ok (.bipush 59, 2) := by decide +kernel
theorem dX5_border_18 : decode cX5_border 18 = .ok (.if_icmp .ne 5, 3) := by decide +kernel
theorem dX5_border_21 : decode cX5_border 21 = .ok (.iload_n 1, 1) := by decide +kernel
theorem dX5_border_22 : decode cX5_border 22 = .ok (.ireturn, 1) := by decide +kernel
theorem dX5_border_23 : decode cX5_border 23 = .ok (.iinc 1 4, 3) := by decide +kernel
theorem dX5_border_26 : decode cX5_border 26 = .ok (.goto (-24), 3) := by decide +kernel
theorem dX5_border_29 : decode cX5_border 29 = .ok (.aload_n 0, 1) := by decide +kernel
theorem dX5_border_30 : decode cX5_border 30 = .ok (.getfield 15, 3) := by decide +kernel
theorem dX5_border_33 : decode cX5_border 33 = .ok (.ireturn, 1) := by decide +kernel
set_option maxRecDepth 20000 in
theorem ggX5_firstFault_X5_border : GoodIn wsX5_firstFault wsX5_border := goodIn_r _ [6, 1, 7, 125, 126] (by decide +kernel) (by decide +kernel)
set_option maxRecDepth 20000 in
theorem gX5_firstFault_X5_border : GoodIn wsX5_firstFault (wsV RX5 30 RX5 yX5_border wsX5_border) := goodIn_app (goodIn_of _ (by decide +kernel)) ggX5_firstFault_X5_border
set_option maxRecDepth 20000 in
theorem ggX5_firstFault_X5_fits : GoodIn wsX5_firstFault wsX5_fits := goodIn_r _ [11, 12, 13, 14, 5, 15, 16, 17, 18, 19, 1, 7, 20, 21, 22, 23, 24, 25, 26, 27, 28, 29, 30, 31, 32, 33, 34, 35, 36, 37, 38, 39, 40, 41, 42, 43, 44, 45, 46, 47, 48, 49, 50, 51, 52, 53, 54, 55, 56, 57, 58, 59, 60, 61, 62, 63, 64, 65, 66, 67, 68, 69, 70, 71, 72, 73, 74, 75, 76, 77, 78, 79, 80, 81, 82, 83, 84, 85, 86, 87, 88, 89, 90, 91, 92, 93, 94, 95, 96, 97, 98, 99, 100, 101, 102, 103, 104, 105, 106, 107, 108, 109, 110, 111, 112, 113, 114, 115, 116, 117, 118, 119, 120, 121, 122, 123, 124, 125, 126] (by decide +kernel) (by decide +kernel)
set_option maxRecDepth 20000 in
theorem gX5_firstFault_X5_fits : GoodIn wsX5_firstFault (wsV RX5 34 RX5 yX5_fits wsX5_fits) := goodIn_app (goodIn_of _ (by decide +kernel)) ggX5_firstFault_X5_fits
theorem dX5_firstFault_0 : decode cX5_firstFault 0 = .ok (.aload_n 0, 1) := by decide +kernel
theorem dX5_firstFault_1 : decode cX5_firstFault 1 = .ok (.invokevirtual 30, 3) := by decide +kernel
theorem dX5_firstFault_4 : decode cX5_firstFault 4 = .ok (.istore_n 1, 1) := by decide +kernel
theorem dX5_firstFault_5 : decode cX5_firstFault 5 = .ok (.iconst 0, 1) := by decide +kernel
theorem dX5_firstFault_6 : decode cX5_firstFault 6 = .ok (.istore_n 2, 1) := by decide +kernel
theorem dX5_firstFault_7 : decode cX5_firstFault 7 = .ok (.iload_n 2, 1) := by decide +kernel
theorem dX5_firstFault_8 : decode cX5_firstFault 8 = .ok (.aload_n 0, 1) := by decide +kernel
theorem dX5_firstFault_9 : decode cX5_firstFault 9 = .ok (.getfield 15, 3) := by decide +kernel
theorem dX5_firstFault_12 : decode cX5_firstFault 12 = .ok (.if_icmp .ge 20, 3) := by decide +kernel
theorem dX5_firstFault_15 : decode cX5_firstFault 15 = .ok (.aload_n 0, 1) := by decide +kernel
theorem dX5_firstFault_16 : decode cX5_firstFault 16 = .ok (.iload_n 2, 1) := by decide +kernel
theorem dX5_firstFault_17 : decode cX5_firstFault 17 = .ok (.iload_n 1, 1) := by decide +kernel
theorem dX5_firstFault_18 : decode cX5_firstFault 18 = .ok (.invokevirtual 34, 3) := by decide +kernel
theorem dX5_firstFault_21 : decode cX5_firstFault 21 = .ok (.ifCond .ne 5, 3) := by decide +kernel
theorem dX5_firstFault_24 : decode cX5_firstFault 24 = .ok (.iload_n 2, 1) := by decide +kernel
theorem dX5_firstFault_25 : decode cX5_firstFault 25 = .ok (.ireturn, 1) := by decide +kernel
theorem dX5_firstFault_26 : decode cX5_firstFault 26 = .ok (.iinc 2 1, 3) := by decide +kernel
theorem dX5_firstFault_29 : decode cX5_firstFault 29 = .ok (.goto (-22), 3) := by decide +kernel
theorem dX5_firstFault_32 : decode cX5_firstFault 32 = .ok (.aload_n 0, 1) := by decide +kernel
theorem dX5_firstFault_33 : decode cX5_firstFault 33 = .ok (.getfield 15, 3) := by decide +kernel
theorem dX5_firstFault_36 : decode cX5_firstFault 36 = .ok (.ireturn, 1) := by decide +kernel
set_option maxRecDepth 20000 in
theorem ggX5_isWhole_X5_border : GoodIn wsX5_isWhole wsX5_border := goodIn_r _ [6, 1, 7, 129, 130] (by decide +kernel) (by decide +kernel)
set_option maxRecDepth 20000 in
theorem gX5_isWhole_X5_border : GoodIn wsX5_isWhole (wsV RX5 30 RX5 yX5_border wsX5_border) := goodIn_app (goodIn_of _ (by decide +kernel)) ggX5_isWhole_X5_border
set_option maxRecDepth 20000 in
theorem ggX5_isWhole_X5_firstFault : GoodIn wsX5_isWhole wsX5_firstFault := goodIn_r _ [11, 1, 2, 3, 4, 5, 6, 7, 12, 13, 14, 15, 16, 17, 18, 19, 20, 21, 22, 23, 24, 25, 26, 27, 28, 29, 30, 31, 32, 33, 34, 35, 36, 37, 38, 39, 40, 41, 42, 43, 44, 45, 46, 47, 48, 49, 50, 51, 52, 53, 54, 55, 56, 57, 58, 59, 60, 61, 62, 63, 64, 65, 66, 67, 68, 69, 70, 71, 72, 73, 74, 75, 76, 77, 78, 79, 80, 81, 82, 83, 84, 85, 86, 87, 88, 89, 90, 91, 92, 93, 94, 95, 96, 97, 98, 99, 100, 101, 102, 103, 104, 105, 106, 107, 108, 109, 110, 111, 112, 113, 114, 115, 116, 117, 118, 119, 120, 121, 122, 123, 124, 125, 126, 127, 128, 129, 130] (by decide +kernel) (by decide +kernel)
set_option maxRecDepth 20000 in
theorem gX5_isWhole_X5_firstFault : GoodIn wsX5_isWhole (wsV RX5 38 RX5 yX5_firstFault wsX5_firstFault) := goodIn_app (goodIn_of _ (by decide +kernel)) ggX5_isWhole_X5_firstFault
theorem dX5_isWhole_0 : decode cX5_isWhole 0 = .ok (.aload_n 0, 1) := by decide +kernel
theorem dX5_isWhole_1 : decode cX5_isWhole 1 = .ok (.getfield 15, 3) := by decide +kernel
theorem dX5_isWhole_4 : decode cX5_isWhole 4 = .ok (.aload_n 0, 1) := by decide +kernel
theorem dX5_isWhole_5 : decode cX5_isWhole 5 = .ok (.invokevirtual 30, 3) := by decide +kernel
theorem dX5_isWhole_8 : decode cX5_isWhole 8 = .ok (.isub, 1) := by decide +kernel
theorem dX5_isWhole_9 : decode cX5_isWhole 9 = .ok (.istore_n 1, 1) := by decide +kernel
theorem dX5_isWhole_10 : decode cX5_isWhole 10 = .ok (.iload_n 1, 1) := by decide +kernel
theorem dX5_isWhole_11 : decode cX5_isWhole 11 = .ok (.ifCond .le 24, 3) := by decide +kernel
theorem dX5_isWhole_14 : decode cX5_isWhole 14 = .ok (.iload_n 1, 1) := by decide +kernel
theorem dX5_isWhole_15 : decode cX5_isWhole 15 = .ok (.iconst 4, 1) := by decide +kernel
theorem dX5_isWhole_16 : decode cX5_isWhole 16 = .ok (.irem, 1) := by decide +kernel
theorem dX5_isWhole_17 : decode cX5_isWhole 17 = .ok (.ifCond .ne 18, 3) := by decide +kernel
theorem dX5_isWhole_20 : decode cX5_isWhole 20 = .ok (.aload_n 0, 1) := by decide +kernel
theorem dX5_isWhole_21 : decode cX5_isWhole 21 = .ok (.invokevirtual 38, 3) := by decide +kernel
theorem dX5_isWhole_24 : decode cX5_isWhole 24 = .ok (.aload_n 0, 1) := by decide +kernel
theorem dX5_isWhole_25 : decode cX5_isWhole 25 = .ok (.getfield 15, 3) := by decide +kernel
theorem dX5_isWhole_28 : decode cX5_isWhole 28 = .ok (.if_icmp .ne 7, 3) := by decide +kernel
theorem dX5_isWhole_31 : decode cX5_isWhole 31 = .ok (.iconst 1, 1) := by decide +kernel
theorem dX5_isWhole_32 : decode cX5_isWhole 32 = .ok (.goto 4, 3) := by decide +kernel
theorem dX5_isWhole_35 : decode cX5_isWhole 35 = .ok (.iconst 0, 1) := by decide +kernel
theorem dX5_isWhole_36 : decode cX5_isWhole 36 = .ok (.ireturn, 1) := by decide +kernel
set_option maxRecDepth 20000 in
theorem ggX5_fits_X5_isDigit : GoodIn wsX5_fits wsX5_isDigit := goodIn_r _ [5, 6, 7, 8, 4, 9, 10, 11, 117, 118] (by decide +kernel) (by decide +kernel)
set_option maxRecDepth 20000 in
theorem gX5_fits_X5_isDigit : GoodIn wsX5_fits (wsV RX5 41 RX5 yX5_isDigit wsX5_isDigit) := goodIn_app (goodIn_of _ (by decide +kernel)) ggX5_fits_X5_isDigit
set_option maxRecDepth 20000 in
theorem ggX5_fits_X5_codeAt : GoodIn wsX5_fits wsX5_codeAt := goodIn_r _ [9, 10, 11, 117, 118] (by decide +kernel) (by decide +kernel)
set_option maxRecDepth 20000 in
theorem gX5_fits_X5_codeAt : GoodIn wsX5_fits (wsV RX5 19 RX5 yX5_codeAt wsX5_codeAt) := goodIn_app (goodIn_of _ (by decide +kernel)) ggX5_fits_X5_codeAt
set_option maxRecDepth 20000 in
theorem ggX5_fits_X5_fitsPassage : GoodIn wsX5_fits wsX5_fitsPassage := goodIn_r _ [15, 16, 17, 18, 4, 19, 6, 7, 8, 9, 10, 11, 1, 2, 3, 5, 117, 118] (by decide +kernel) (by decide +kernel)
set_option maxRecDepth 20000 in
theorem gX5_fits_X5_fitsPassage : GoodIn wsX5_fits (wsV RX5 45 RX5 yX5_fitsPassage wsX5_fitsPassage) := goodIn_app (goodIn_of _ (by decide +kernel)) ggX5_fits_X5_fitsPassage
set_option maxRecDepth 20000 in
theorem ggX5_fits_X5_fitsPerson : GoodIn wsX5_fits wsX5_fitsPerson := goodIn_r _ [23, 24, 25, 26, 4, 27, 6, 7, 8, 9, 10, 11, 28, 29, 30, 31, 32, 33, 34, 35, 36, 37, 38, 39, 40, 41, 42, 43, 44, 45, 46, 47, 48, 49, 50, 51, 52, 53, 54, 55, 56, 57, 58, 59, 60, 61, 62, 63, 64, 65, 66, 67, 68, 69, 70, 71, 72, 73, 74, 75, 76, 77, 78, 79, 80, 81, 82, 83, 84, 85, 86, 87, 88, 89, 90, 91, 92, 93, 94, 95, 96, 97, 98, 99, 100, 101, 102, 103, 104, 105, 106, 107, 108, 109, 110, 111, 112, 113, 114, 115, 116, 1, 2, 3, 5, 117, 118] (by decide +kernel) (by decide +kernel)
set_option maxRecDepth 20000 in
theorem gX5_fits_X5_fitsPerson : GoodIn wsX5_fits (wsV RX5 49 RX5 yX5_fitsPerson wsX5_fitsPerson) := goodIn_app (goodIn_of _ (by decide +kernel)) ggX5_fits_X5_fitsPerson
theorem dX5_fits_0 : decode cX5_fits 0 = .ok (.iload_n 1, 1) := by decide +kernel
theorem dX5_fits_1 : decode cX5_fits 1 = .ok (.ifCond .ne 11, 3) := by decide +kernel
theorem dX5_fits_4 : decode cX5_fits 4 = .ok (.aload_n 0, 1) := by decide +kernel
theorem dX5_fits_5 : decode cX5_fits 5 = .ok (.iload_n 1, 1) := by decide +kernel
theorem dX5_fits_6 : decode cX5_fits 6 = .ok (.iconst 2, 1) := by decide +kernel
theorem dX5_fits_7 : decode cX5_fits 7 = .ok (.iconst 5, 1) := by decide +kernel
theorem dX5_fits_8 : decode cX5_fits 8 = .ok (.invokevirtual 41, 3) := by decide +kernel
theorem dX5_fits_11 : decode cX5_fits 11 = .ok (.ireturn, 1) := by decide +kernel
theorem dX5_fits_12 : decode cX5_fits 12 = .ok (.iload_n 1, 1) := by decide +kernel
theorem dX5_fits_13 : decode cX5_fits 13 = .ok (.iconst 1, 1) := by decide +kernel
theorem dX5_fits_14 : decode cX5_fits 14 = .ok (.if_icmp .ne 19, 3) := by decide +kernel
theorem dX5_fits_17 : decode cX5_fits 17 = .ok (.aload_n 0, 1) := by decide +kernel
theorem dX5_fits_18 : decode cX5_fits 18 = .ok (.iload_n 1, 1) := by decide +kernel
theorem dX5_fits_19 : decode cX5_fits 19 = .ok (.invokevirtual 19, 3) := by decide +kernel
theorem dX5_fits_22 : decode cX5_fits 22 = .ok (.bipush 59, 2) := by decide +kernel
theorem dX5_fits_24 : decode cX5_fits 24 = .ok (.if_icmp .ne 7, 3) := by decide +kernel
theorem dX5_fits_27 : decode cX5_fits 27 = .ok (.iconst 1, 1) := by decide +kernel
theorem dX5_fits_28 : decode cX5_fits 28 = .ok (.goto 4, 3) := by decide +kernel
theorem dX5_fits_31 : decode cX5_fits 31 = .ok (.iconst 0, 1) := by decide +kernel
theorem dX5_fits_32 : decode cX5_fits 32 = .ok (.ireturn, 1) := by decide +kernel
theorem dX5_fits_33 : decode cX5_fits 33 = .ok (.iload_n 1, 1) := by decide +kernel
theorem dX5_fits_34 : decode cX5_fits 34 = .ok (.iload_n 2, 1) := by decide +kernel
theorem dX5_fits_35 : decode cX5_fits 35 = .ok (.if_icmp .ge 9, 3) := by decide +kernel
theorem dX5_fits_38 : decode cX5_fits 38 = .ok (.aload_n 0, 1) := by decide +kernel
theorem dX5_fits_39 : decode cX5_fits 39 = .ok (.iload_n 1, 1) := by decide +kernel
theorem dX5_fits_40 : decode cX5_fits 40 = .ok (.invokevirtual 45, 3) := by decide +kernel
theorem dX5_fits_43 : decode cX5_fits 43 = .ok (.ireturn, 1) := by decide +kernel
theorem dX5_fits_44 : decode cX5_fits 44 = .ok (.iload_n 1, 1) := by decide +kernel
theorem dX5_fits_45 : decode cX5_fits 45 = .ok (.iload_n 2, 1) := by decide +kernel
theorem dX5_fits_46 : decode cX5_fits 46 = .ok (.if_icmp .eq 16, 3) := by decide +kernel
theorem dX5_fits_49 : decode cX5_fits 49 = .ok (.aload_n 0, 1) := by decide +kernel
theorem dX5_fits_50 : decode cX5_fits 50 = .ok (.iload_n 1, 1) := by decide +kernel
theorem dX5_fits_51 : decode cX5_fits 51 = .ok (.iload_n 1, 1) := by decide +kernel
theorem dX5_fits_52 : decode cX5_fits 52 = .ok (.iload_n 2, 1) := by decide +kernel
theorem dX5_fits_53 : decode cX5_fits 53 = .ok (.isub, 1) := by decide +kernel
theorem dX5_fits_54 : decode cX5_fits 54 = .ok (.iconst 1, 1) := by decide +kernel
theorem dX5_fits_55 : decode cX5_fits 55 = .ok (.isub, 1) := by decide +kernel
theorem dX5_fits_56 : decode cX5_fits 56 = .ok (.invokevirtual 49, 3) := by decide +kernel
theorem dX5_fits_59 : decode cX5_fits 59 = .ok (.ifCond .eq 7, 3) := by decide +kernel
theorem dX5_fits_62 : decode cX5_fits 62 = .ok (.iconst 1, 1) := by decide +kernel
theorem dX5_fits_63 : decode cX5_fits 63 = .ok (.goto 4, 3) := by decide +kernel
theorem dX5_fits_66 : decode cX5_fits 66 = .ok (.iconst 0, 1) := by decide +kernel
theorem dX5_fits_67 : decode cX5_fits 67 = .ok (.ireturn, 1) := by decide +kernel
set_option maxRecDepth 20000 in
theorem ggX5_fitsPassage_X5_digitAt : GoodIn wsX5_fitsPassage wsX5_digitAt := goodIn_r _ [5, 6, 7, 8, 4, 9, 10, 11, 16, 17] (by decide +kernel) (by decide +kernel)
set_option maxRecDepth 20000 in
theorem gX5_fitsPassage_X5_digitAt : GoodIn wsX5_fitsPassage (wsV RX5 52 RX5 yX5_digitAt wsX5_digitAt) := goodIn_app (goodIn_of _ (by decide +kernel)) ggX5_fitsPassage_X5_digitAt
set_option maxRecDepth 20000 in
theorem ggX5_fitsPassage_X5_isDigit : GoodIn wsX5_fitsPassage wsX5_isDigit := goodIn_r _ [15, 6, 7, 8, 4, 9, 10, 11, 16, 17] (by decide +kernel) (by decide +kernel)
set_option maxRecDepth 20000 in
theorem gX5_fitsPassage_X5_isDigit : GoodIn wsX5_fitsPassage (wsV RX5 41 RX5 yX5_isDigit wsX5_isDigit) := goodIn_app (goodIn_of _ (by decide +kernel)) ggX5_fitsPassage_X5_isDigit
set_option maxRecDepth 20000 in
theorem ggX5_fitsPassage_X5_codeAt : GoodIn wsX5_fitsPassage wsX5_codeAt := goodIn_r _ [9, 10, 11, 16, 17] (by decide +kernel) (by decide +kernel)
set_option maxRecDepth 20000 in
theorem gX5_fitsPassage_X5_codeAt : GoodIn wsX5_fitsPassage (wsV RX5 19 RX5 yX5_codeAt wsX5_codeAt) := goodIn_app (goodIn_of _ (by decide +kernel)) ggX5_fitsPassage_X5_codeAt
theorem dX5_fitsPassage_0 : decode cX5_fitsPassage 0 = .ok (.aload_n 0, 1) := by decide +kernel
theorem dX5_fitsPassage_1 : decode cX5_fitsPassage 1 = .ok (.iconst 0, 1) := by decide +kernel
theorem dX5_fitsPassage_2 : decode cX5_fitsPassage 2 = .ok (.invokevirtual 52, 3) := by decide +kernel
theorem dX5_fitsPassage_5 : decode cX5_fitsPassage 5 = .ok (.iconst 1, 1) := by decide +kernel
theorem dX5_fitsPassage_6 : decode cX5_fitsPassage 6 = .ok (.isub, 1) := by decide +kernel
theorem dX5_fitsPassage_7 : decode cX5_fitsPassage 7 = .ok (.istore_n 2, 1) := by decide +kernel
theorem dX5_fitsPassage_8 : decode cX5_fitsPassage 8 = .ok (.iload_n 1, 1) := by decide +kernel
theorem dX5_fitsPassage_9 : decode cX5_fitsPassage 9 = .ok (.iconst 2, 1) := by decide +kernel
theorem dX5_fitsPassage_10 : decode cX5_fitsPassage 10 = .ok (.isub, 1) := by decide +kernel
theorem dX5_fitsPassage_11 : decode cX5_fitsPassage 11 = .ok (.iconst 4, 1) := by decide +kernel
theorem dX5_fitsPassage_12 : decode cX5_fitsPassage 12 = .ok (.irem, 1) := by decide +kernel
theorem dX5_fitsPassage_13 : decode cX5_fitsPassage 13 = .ok (.tableswitch 75 0 2 #[27, 35, 66], 27) := by decide +kernel
theorem dX5_fitsPassage_40 : decode cX5_fitsPassage 40 = .ok (.aload_n 0, 1) := by decide +kernel
theorem dX5_fitsPassage_41 : decode cX5_fitsPassage 41 = .ok (.iload_n 1, 1) := by decide +kernel
theorem dX5_fitsPassage_42 : decode cX5_fitsPassage 42 = .ok (.iconst 0, 1) := by decide +kernel
theorem dX5_fitsPassage_43 : decode cX5_fitsPassage 43 = .ok (.iload_n 2, 1) := by decide +kernel
theorem dX5_fitsPassage_44 : decode cX5_fitsPassage 44 = .ok (.invokevirtual 41, 3) := by decide +kernel
theorem dX5_fitsPassage_47 : decode cX5_fitsPassage 47 = .ok (.ireturn, 1) := by decide +kernel
theorem dX5_fitsPassage_48 : decode cX5_fitsPassage 48 = .ok (.aload_n 0, 1) := by decide +kernel
theorem dX5_fitsPassage_49 : decode cX5_fitsPassage 49 = .ok (.iload_n 1, 1) := by decide +kernel
theorem dX5_fitsPassage_50 : decode cX5_fitsPassage 50 = .ok (.iconst 0, 1) := by decide +kernel
theorem dX5_fitsPassage_51 : decode cX5_fitsPassage 51 = .ok (.iload_n 2, 1) := by decide +kernel
theorem dX5_fitsPassage_52 : decode cX5_fitsPassage 52 = .ok (.invokevirtual 41, 3) := by decide +kernel
theorem dX5_fitsPassage_55 : decode cX5_fitsPassage 55 = .ok (.ifCond .eq 22, 3) := by decide +kernel
theorem dX5_fitsPassage_58 : decode cX5_fitsPassage 58 = .ok (.aload_n 0, 1) := by decide +kernel
theorem dX5_fitsPassage_59 : decode cX5_fitsPassage 59 = .ok (.iload_n 1, 1) := by decide +kernel
theorem dX5_fitsPassage_60 : decode cX5_fitsPassage 60 = .ok (.invokevirtual 19, 3) := by decide +kernel
theorem dX5_fitsPassage_63 : decode cX5_fitsPassage 63 = .ok (.aload_n 0, 1) := by decide +kernel
theorem dX5_fitsPassage_64 : decode cX5_fitsPassage 64 = .ok (.iload_n 1, 1) := by decide +kernel
theorem dX5_fitsPassage_65 : decode cX5_fitsPassage 65 = .ok (.iconst 1, 1) := by decide +kernel
theorem dX5_fitsPassage_66 : decode cX5_fitsPassage 66 = .ok (.isub, 1) := by decide +kernel
theorem dX5_fitsPassage_67 : decode cX5_fitsPassage 67 = .ok (.invokevirtual 19, 3) := by decide +kernel
theorem dX5_fitsPassage_70 : decode cX5_fitsPassage 70 = .ok (.if_icmp .eq 7, 3) := by decide +kernel
theorem dX5_fitsPassage_73 : decode cX5_fitsPassage 73 = .ok (.iconst 1, 1) := by decide +kernel
theorem dX5_fitsPassage_74 : decode cX5_fitsPassage 74 = .ok (.goto 4, 3) := by decide +kernel
theorem dX5_fitsPassage_77 : decode cX5_fitsPassage 77 = .ok (.iconst 0, 1) := by decide +kernel
theorem dX5_fitsPassage_78 : decode cX5_fitsPassage 78 = .ok (.ireturn, 1) := by decide +kernel
theorem dX5_fitsPassage_79 : decode cX5_fitsPassage 79 = .ok (.aload_n 0, 1) := by decide +kernel
theorem dX5_fitsPassage_80 : decode cX5_fitsPassage 80 = .ok (.iload_n 1, 1) := by decide +kernel
theorem dX5_fitsPassage_81 : decode cX5_fitsPassage 81 = .ok (.iconst 1, 1) := by decide +kernel
theorem dX5_fitsPassage_82 : decode cX5_fitsPassage 82 = .ok (.bipush 9, 2) := by decide +kernel
theorem dX5_fitsPassage_84 : decode cX5_fitsPassage 84 = .ok (.invokevirtual 41, 3) := by decide +kernel
theorem dX5_fitsPassage_87 : decode cX5_fitsPassage 87 = .ok (.ireturn, 1) := by decide +kernel
theorem dX5_fitsPassage_88 : decode cX5_fitsPassage 88 = .ok (.aload_n 0, 1) := by decide +kernel
theorem dX5_fitsPassage_89 : decode cX5_fitsPassage 89 = .ok (.iload_n 1, 1) := by decide +kernel
theorem dX5_fitsPassage_90 : decode cX5_fitsPassage 90 = .ok (.invokevirtual 19, 3) := by decide +kernel
theorem dX5_fitsPassage_93 : decode cX5_fitsPassage 93 = .ok (.bipush 44, 2) := by decide +kernel
theorem dX5_fitsPassage_95 : decode cX5_fitsPassage 95 = .ok (.if_icmp .ne 15, 3) := by decide +kernel
theorem dX5_fitsPassage_98 : decode cX5_fitsPassage 98 = .ok (.iload_n 1, 1) := by decide +kernel
theorem dX5_fitsPassage_99 : decode cX5_fitsPassage 99 = .ok (.iconst 2, 1) := by decide +kernel
theorem dX5_fitsPassage_100 : decode cX5_fitsPassage 100 = .ok (.isub, 1) := by decide +kernel
theorem dX5_fitsPassage_101 : decode cX5_fitsPassage 101 = .ok (.bipush 24, 2) := by decide +kernel
theorem dX5_fitsPassage_103 : decode cX5_fitsPassage 103 = .ok (.if_icmp .ge 7, 3) := by decide +kernel
theorem dX5_fitsPassage_106 : decode cX5_fitsPassage 106 = .ok (.iconst 1, 1) := by decide +kernel
theorem dX5_fitsPassage_107 : decode cX5_fitsPassage 107 = .ok (.goto 4, 3) := by decide +kernel
theorem dX5_fitsPassage_110 : decode cX5_fitsPassage 110 = .ok (.iconst 0, 1) := by decide +kernel
theorem dX5_fitsPassage_111 : decode cX5_fitsPassage 111 = .ok (.ireturn, 1) := by decide +kernel
set_option maxRecDepth 20000 in
theorem ggX5_fitsPerson_X5_kindAt : GoodIn wsX5_fitsPerson wsX5_kindAt := goodIn_r _ [5, 6, 7, 8, 4, 9, 10, 11, 12, 13, 14, 15, 16, 17, 18, 19, 20, 21, 22, 23, 24, 25, 26, 27, 28, 29, 30, 31, 32, 33, 34, 35, 36, 37, 38, 39, 40, 41, 42, 43, 44, 45, 46, 47, 48, 49, 50, 51, 52, 53, 54, 55, 56, 57, 58, 59, 60, 61, 62, 63, 64, 65, 66, 67, 68, 69, 70, 71, 72, 73, 74, 75, 76, 77, 78, 79, 80, 81, 82, 83, 84, 85, 86, 87, 88, 89, 90, 91, 92, 93, 94, 95, 96, 97, 98, 99, 100, 105, 106] (by decide +kernel) (by decide +kernel)
set_option maxRecDepth 20000 in
theorem gX5_fitsPerson_X5_kindAt : GoodIn wsX5_fitsPerson (wsV RX5 55 RX5 yX5_kindAt wsX5_kindAt) := goodIn_app (goodIn_of _ (by decide +kernel)) ggX5_fitsPerson_X5_kindAt
set_option maxRecDepth 20000 in
theorem ggX5_fitsPerson_X5_isDigit : GoodIn wsX5_fitsPerson wsX5_isDigit := goodIn_r _ [104, 6, 7, 8, 4, 9, 10, 11, 105, 106] (by decide +kernel) (by decide +kernel)
set_option maxRecDepth 20000 in
theorem gX5_fitsPerson_X5_isDigit : GoodIn wsX5_fitsPerson (wsV RX5 41 RX5 yX5_isDigit wsX5_isDigit) := goodIn_app (goodIn_of _ (by decide +kernel)) ggX5_fitsPerson_X5_isDigit
set_option maxRecDepth 20000 in
theorem ggX5_fitsPerson_X5_codeAt : GoodIn wsX5_fitsPerson wsX5_codeAt := goodIn_r _ [9, 10, 11, 105, 106] (by decide +kernel) (by decide +kernel)
set_option maxRecDepth 20000 in
theorem gX5_fitsPerson_X5_codeAt : GoodIn wsX5_fitsPerson (wsV RX5 19 RX5 yX5_codeAt wsX5_codeAt) := goodIn_app (goodIn_of _ (by decide +kernel)) ggX5_fitsPerson_X5_codeAt
theorem dX5_fitsPerson_0 : decode cX5_fitsPerson 0 = .ok (.iload_n 2, 1) := by decide +kernel
theorem dX5_fitsPerson_1 : decode cX5_fitsPerson 1 = .ok (.iconst 4, 1) := by decide +kernel
theorem dX5_fitsPerson_2 : decode cX5_fitsPerson 2 = .ok (.irem, 1) := by decide +kernel
theorem dX5_fitsPerson_3 : decode cX5_fitsPerson 3 = .ok (.tableswitch 57 0 2 #[25, 39, 48], 25) := by decide +kernel
theorem dX5_fitsPerson_28 : decode cX5_fitsPerson 28 = .ok (.aload_n 0, 1) := by decide +kernel
theorem dX5_fitsPerson_29 : decode cX5_fitsPerson 29 = .ok (.iload_n 1, 1) := by decide +kernel
theorem dX5_fitsPerson_30 : decode cX5_fitsPerson 30 = .ok (.invokevirtual 55, 3) := by decide +kernel
theorem dX5_fitsPerson_33 : decode cX5_fitsPerson 33 = .ok (.ifCond .lt 7, 3) := by decide +kernel
theorem dX5_fitsPerson_36 : decode cX5_fitsPerson 36 = .ok (.iconst 1, 1) := by decide +kernel
theorem dX5_fitsPerson_37 : decode cX5_fitsPerson 37 = .ok (.goto 4, 3) := by decide +kernel
theorem dX5_fitsPerson_40 : decode cX5_fitsPerson 40 = .ok (.iconst 0, 1) := by decide +kernel
theorem dX5_fitsPerson_41 : decode cX5_fitsPerson 41 = .ok (.ireturn, 1) := by decide +kernel
theorem dX5_fitsPerson_42 : decode cX5_fitsPerson 42 = .ok (.aload_n 0, 1) := by decide +kernel
theorem dX5_fitsPerson_43 : decode cX5_fitsPerson 43 = .ok (.iload_n 1, 1) := by decide +kernel
theorem dX5_fitsPerson_44 : decode cX5_fitsPerson 44 = .ok (.iconst 0, 1) := by decide +kernel
theorem dX5_fitsPerson_45 : decode cX5_fitsPerson 45 = .ok (.bipush 9, 2) := by decide +kernel
theorem dX5_fitsPerson_47 : decode cX5_fitsPerson 47 = .ok (.invokevirtual 41, 3) := by decide +kernel
theorem dX5_fitsPerson_50 : decode cX5_fitsPerson 50 = .ok (.ireturn, 1) := by decide +kernel
theorem dX5_fitsPerson_51 : decode cX5_fitsPerson 51 = .ok (.aload_n 0, 1) := by decide +kernel
theorem dX5_fitsPerson_52 : decode cX5_fitsPerson 52 = .ok (.iload_n 1, 1) := by decide +kernel
theorem dX5_fitsPerson_53 : decode cX5_fitsPerson 53 = .ok (.iconst 0, 1) := by decide +kernel
theorem dX5_fitsPerson_54 : decode cX5_fitsPerson 54 = .ok (.bipush 9, 2) := by decide +kernel
theorem dX5_fitsPerson_56 : decode cX5_fitsPerson 56 = .ok (.invokevirtual 41, 3) := by decide +kernel
theorem dX5_fitsPerson_59 : decode cX5_fitsPerson 59 = .ok (.ireturn, 1) := by decide +kernel
theorem dX5_fitsPerson_60 : decode cX5_fitsPerson 60 = .ok (.aload_n 0, 1) := by decide +kernel
theorem dX5_fitsPerson_61 : decode cX5_fitsPerson 61 = .ok (.iload_n 1, 1) := by decide +kernel
theorem dX5_fitsPerson_62 : decode cX5_fitsPerson 62 = .ok (.invokevirtual 19, 3) := by decide +kernel
theorem dX5_fitsPerson_65 : decode cX5_fitsPerson 65 = .ok (.bipush 44, 2) := by decide +kernel
theorem dX5_fitsPerson_67 : decode cX5_fitsPerson 67 = .ok (.if_icmp .ne 13, 3) := by decide +kernel
theorem dX5_fitsPerson_70 : decode cX5_fitsPerson 70 = .ok (.iload_n 2, 1) := by decide +kernel
theorem dX5_fitsPerson_71 : decode cX5_fitsPerson 71 = .ok (.bipush 16, 2) := by decide +kernel
theorem dX5_fitsPerson_73 : decode cX5_fitsPerson 73 = .ok (.if_icmp .ge 7, 3) := by decide +kernel
theorem dX5_fitsPerson_76 : decode cX5_fitsPerson 76 = .ok (.iconst 1, 1) := by decide +kernel
theorem dX5_fitsPerson_77 : decode cX5_fitsPerson 77 = .ok (.goto 4, 3) := by decide +kernel
theorem dX5_fitsPerson_80 : decode cX5_fitsPerson 80 = .ok (.iconst 0, 1) := by decide +kernel
theorem dX5_fitsPerson_81 : decode cX5_fitsPerson 81 = .ok (.ireturn, 1) := by decide +kernel
set_option maxRecDepth 20000 in
theorem ggX5_isDigit_X5_codeAt : GoodIn wsX5_isDigit wsX5_codeAt := goodIn_r _ [5, 6, 7, 8, 9] (by decide +kernel) (by decide +kernel)
set_option maxRecDepth 20000 in
theorem gX5_isDigit_X5_codeAt : GoodIn wsX5_isDigit (wsV RX5 19 RX5 yX5_codeAt wsX5_codeAt) := goodIn_app (goodIn_of _ (by decide +kernel)) ggX5_isDigit_X5_codeAt
theorem dX5_isDigit_0 : decode cX5_isDigit 0 = .ok (.aload_n 0, 1) := by decide +kernel
theorem dX5_isDigit_1 : decode cX5_isDigit 1 = .ok (.iload_n 1, 1) := by decide +kernel
theorem dX5_isDigit_2 : decode cX5_isDigit 2 = .ok (.invokevirtual 19, 3) := by decide +kernel
theorem dX5_isDigit_5 : decode cX5_isDigit 5 = .ok (.bipush 48, 2) := by decide +kernel
theorem dX5_isDigit_7 : decode cX5_isDigit 7 = .ok (.isub, 1) := by decide +kernel
theorem dX5_isDigit_8 : decode cX5_isDigit 8 = .ok (.istore 4, 2) := by decide +kernel
theorem dX5_isDigit_10 : decode cX5_isDigit 10 = .ok (.iload 4, 2) := by decide +kernel
theorem dX5_isDigit_12 : decode cX5_isDigit 12 = .ok (.iload_n 2, 1) := by decide +kernel
theorem dX5_isDigit_13 : decode cX5_isDigit 13 = .ok (.if_icmp .lt 13, 3) := by decide +kernel
theorem dX5_isDigit_16 : decode cX5_isDigit 16 = .ok (.iload 4, 2) := by decide +kernel
theorem dX5_isDigit_18 : decode cX5_isDigit 18 = .ok (.iload_n 3, 1) := by decide +kernel
theorem dX5_isDigit_19 : decode cX5_isDigit 19 = .ok (.if_icmp .gt 7, 3) := by decide +kernel
theorem dX5_isDigit_22 : decode cX5_isDigit 22 = .ok (.iconst 1, 1) := by decide +kernel
theorem dX5_isDigit_23 : decode cX5_isDigit 23 = .ok (.goto 4, 3) := by decide +kernel
theorem dX5_isDigit_26 : decode cX5_isDigit 26 = .ok (.iconst 0, 1) := by decide +kernel
theorem dX5_isDigit_27 : decode cX5_isDigit 27 = .ok (.ireturn, 1) := by decide +kernel
theorem dX6_init_0 : decode cX6_init 0 = .ok (.aload_n 0, 1) := by decide +kernel
theorem dX6_init_1 : decode cX6_init 1 = .ok (.invokespecial 3, 3) := by decide +kernel
theorem dX6_init_4 : decode cX6_init 4 = .ok (.aload_n 0, 1) := by decide +kernel
theorem dX6_init_5 : decode cX6_init 5 = .ok (.iconst 5, 1) := by decide +kernel
theorem dX6_init_6 : decode cX6_init 6 = .ok (.iconst 5, 1) := by decide +kernel
theorem dX6_init_7 : decode cX6_init 7 = .ok (.multianewarray 9 2, 4) := by decide +kernel
theorem dX6_init_11 : decode cX6_init 11 = .ok (.putfield 11, 3) := by decide +kernel
theorem dX6_init_14 : decode cX6_init 14 = .ok (.aload_n 0, 1) := by decide +kernel
theorem dX6_init_15 : decode cX6_init 15 = .ok (.iconst 5, 1) := by decide +kernel
theorem dX6_init_16 : decode cX6_init 16 = .ok (.newarray .int, 2) := by decide +kernel
theorem dX6_init_18 : decode cX6_init 18 = .ok (.putfield 16, 3) := by decide +kernel
theorem dX6_init_21 : decode cX6_init 21 = .ok (.aload_n 0, 1) := by decide +kernel
theorem dX6_init_22 : decode cX6_init 22 = .ok (.iconst 5, 1) := by decide +kernel
theorem dX6_init_23 : decode cX6_init 23 = .ok (.newarray .int, 2) := by decide +kernel
theorem dX6_init_25 : decode cX6_init 25 = .ok (.putfield 20, 3) := by decide +kernel
theorem dX6_init_28 : decode cX6_init 28 = .ok (.return_, 1) := by decide +kernel
set_option maxRecDepth 20000 in
theorem ggX6_arrange_X2_aloneSteps : GoodIn wsX6_arrange wsX2_aloneSteps := goodIn_r _ [11, 12, 13, 14, 15, 16, 17, 10, 18, 19, 20, 21, 22, 23, 24, 25, 26, 27, 28, 29, 30, 31, 32, 33, 34, 35, 36, 37, 38, 39, 40, 41, 42, 43, 44, 45, 46, 47, 48, 49, 50, 51, 82, 83, 84, 85, 86, 87, 88, 89, 90, 91, 92, 93, 94, 95, 96, 97, 98, 99] (by decide +kernel) (by decide +kernel)
set_option maxRecDepth 20000 in
theorem gX6_arrange_X2_aloneSteps : GoodIn wsX6_arrange (wsV RX6 32 RX2 yX2_aloneSteps wsX2_aloneSteps) := goodIn_app (goodIn_of _ (by decide +kernel)) ggX6_arrange_X2_aloneSteps
set_option maxRecDepth 20000 in
theorem ggX6_arrange_X2_stepsOf : GoodIn wsX6_arrange wsX2_stepsOf := goodIn_r _ [55, 14, 56, 57, 58, 10, 59, 12, 13, 15, 16, 17, 18, 19, 20, 21, 22, 23, 24, 25, 26, 27, 28, 29, 30, 31, 32, 33, 34, 35, 36, 37, 38, 39, 40, 41, 42, 43, 44, 45, 46, 47, 48, 49, 50, 51, 82, 83, 84, 85, 86, 87, 88, 89, 90, 91, 92, 93, 94, 95, 96, 97, 98, 99] (by decide +kernel) (by decide +kernel)
set_option maxRecDepth 20000 in
theorem gX6_arrange_X2_stepsOf : GoodIn wsX6_arrange (wsV RX6 36 RX2 yX2_stepsOf wsX2_stepsOf) := goodIn_app (goodIn_of _ (by decide +kernel)) ggX6_arrange_X2_stepsOf
set_option maxRecDepth 20000 in
theorem ggX6_arrange_X6_arrangeFrom : GoodIn wsX6_arrange wsX6_arrangeFrom := goodIn_r _ [63, 2, 64, 3, 65, 66, 67, 68, 69, 70, 71, 62, 72, 5, 6, 73, 74, 75, 76, 77, 78, 79, 80, 81, 60, 61, 100, 101, 102, 103, 104, 105] (by decide +kernel) (by decide +kernel)
set_option maxRecDepth 20000 in
theorem gX6_arrange_X6_arrangeFrom : GoodIn wsX6_arrange (va_wsS RX6 47 yX6_arrangeFrom wsX6_arrangeFrom) := goodIn_app (goodIn_of _ (by decide +kernel)) ggX6_arrange_X6_arrangeFrom
theorem dX6_arrange_0 : decode cX6_arrange 0 = .ok (.aload_n 0, 1) := by decide +kernel
theorem dX6_arrange_1 : decode cX6_arrange 1 = .ok (.aload_n 1, 1) := by decide +kernel
theorem dX6_arrange_2 : decode cX6_arrange 2 = .ok (.getfield 23, 3) := by decide +kernel
theorem dX6_arrange_5 : decode cX6_arrange 5 = .ok (.putfield 29, 3) := by decide +kernel
theorem dX6_arrange_8 : decode cX6_arrange 8 = .ok (.iconst 0, 1) := by decide +kernel
theorem dX6_arrange_9 : decode cX6_arrange 9 = .ok (.istore_n 3, 1) := by decide +kernel
theorem dX6_arrange_10 : decode cX6_arrange 10 = .ok (.iload_n 3, 1) := by decide +kernel
theorem dX6_arrange_11 : decode cX6_arrange 11 = .ok (.aload_n 0, 1) := by decide +kernel
theorem dX6_arrange_12 : decode cX6_arrange 12 = .ok (.getfield 29, 3) := by decide +kernel
theorem dX6_arrange_15 : decode cX6_arrange 15 = .ok (.if_icmp .ge 60, 3) := by decide +kernel
theorem dX6_arrange_18 : decode cX6_arrange 18 = .ok (.aload_n 0, 1) := by decide +kernel
theorem dX6_arrange_19 : decode cX6_arrange 19 = .ok (.getfield 11, 3) := by decide +kernel
theorem dX6_arrange_22 : decode cX6_arrange 22 = .ok (.iload_n 3, 1) := by decide +kernel
theorem dX6_arrange_23 : decode cX6_arrange 23 = .ok (.aaload, 1) := by decide +kernel
theorem dX6_arrange_24 : decode cX6_arrange 24 = .ok (.iload_n 3, 1) := by decide +kernel
theorem dX6_arrange_25 : decode cX6_arrange 25 = .ok (.aload_n 1, 1) := by decide +kernel
theorem dX6_arrange_26 : decode cX6_arrange 26 = .ok (.iload_n 3, 1) := by decide +kernel
theorem dX6_arrange_27 : decode cX6_arrange 27 = .ok (.iload_n 2, 1) := by decide +kernel
theorem dX6_arrange_28 : decode cX6_arrange 28 = .ok (.invokevirtual 32, 3) := by decide +kernel
theorem dX6_arrange_31 : decode cX6_arrange 31 = .ok (.iastore, 1) := by decide +kernel
theorem dX6_arrange_32 : decode cX6_arrange 32 = .ok (.iload_n 3, 1) := by decide +kernel
theorem dX6_arrange_33 : decode cX6_arrange 33 = .ok (.iconst 1, 1) := by decide +kernel
theorem dX6_arrange_34 : decode cX6_arrange 34 = .ok (.iadd, 1) := by decide +kernel
theorem dX6_arrange_35 : decode cX6_arrange 35 = .ok (.istore 4, 2) := by decide +kernel
theorem dX6_arrange_37 : decode cX6_arrange 37 = .ok (.iload 4, 2) := by decide +kernel
theorem dX6_arrange_39 : decode cX6_arrange 39 = .ok (.aload_n 0, 1) := by decide +kernel
theorem dX6_arrange_40 : decode cX6_arrange 40 = .ok (.getfield 29, 3) := by decide +kernel
theorem dX6_arrange_43 : decode cX6_arrange 43 = .ok (.if_icmp .ge 26, 3) := by decide +kernel
theorem dX6_arrange_46 : decode cX6_arrange 46 = .ok (.aload_n 0, 1) := by decide +kernel
theorem dX6_arrange_47 : decode cX6_arrange 47 = .ok (.getfield 11, 3) := by decide +kernel
theorem dX6_arrange_50 : decode cX6_arrange 50 = .ok (.iload_n 3, 1) := by decide +kernel
theorem dX6_arrange_51 : decode cX6_arrange 51 = .ok (.aaload, 1) := by decide +kernel
theorem dX6_arrange_52 : decode cX6_arrange 52 = .ok (.iload 4, 2) := by decide +kernel
theorem dX6_arrange_54 : decode cX6_arrange 54 = .ok (.aload_n 1, 1) := by decide +kernel
theorem dX6_arrange_55 : decode cX6_arrange 55 = .ok (.iload_n 3, 1) := by decide +kernel
theorem dX6_arrange_56 : decode cX6_arrange 56 = .ok (.iload_n 2, 1) := by decide +kernel
theorem dX6_arrange_57 : decode cX6_arrange 57 = .ok (.iload 4, 2) := by decide +kernel
theorem dX6_arrange_59 : decode cX6_arrange 59 = .ok (.invokevirtual 36, 3) := by decide +kernel
theorem dX6_arrange_62 : decode cX6_arrange 62 = .ok (.iastore, 1) := by decide +kernel
theorem dX6_arrange_63 : decode cX6_arrange 63 = .ok (.iinc 4 1, 3) := by decide +kernel
theorem dX6_arrange_66 : decode cX6_arrange 66 = .ok (.goto (-29), 3) := by decide +kernel
theorem dX6_arrange_69 : decode cX6_arrange 69 = .ok (.iinc 3 1, 3) := by decide +kernel
theorem dX6_arrange_72 : decode cX6_arrange 72 = .ok (.goto (-62), 3) := by decide +kernel
theorem dX6_arrange_75 : decode cX6_arrange 75 = .ok (.aload_n 0, 1) := by decide +kernel
theorem dX6_arrange_76 : decode cX6_arrange 76 = .ok (.ldc 40, 2) := by decide +kernel
theorem dX6_arrange_78 : decode cX6_arrange 78 = .ok (.putfield 41, 3) := by decide +kernel
theorem dX6_arrange_81 : decode cX6_arrange 81 = .ok (.aload_n 0, 1) := by decide +kernel
theorem dX6_arrange_82 : decode cX6_arrange 82 = .ok (.ldc 40, 2) := by decide +kernel
theorem dX6_arrange_84 : decode cX6_arrange 84 = .ok (.putfield 44, 3) := by decide +kernel
theorem dX6_arrange_87 : decode cX6_arrange 87 = .ok (.aload_n 0, 1) := by decide +kernel
theorem dX6_arrange_88 : decode cX6_arrange 88 = .ok (.iconst 0, 1) := by decide +kernel
theorem dX6_arrange_89 : decode cX6_arrange 89 = .ok (.iconst 0, 1) := by decide +kernel
theorem dX6_arrange_90 : decode cX6_arrange 90 = .ok (.iconst 0, 1) := by decide +kernel
theorem dX6_arrange_91 : decode cX6_arrange 91 = .ok (.iconst 0, 1) := by decide +kernel
theorem dX6_arrange_92 : decode cX6_arrange 92 = .ok (.invokestatic 47, 3) := by decide +kernel
theorem dX6_arrange_95 : decode cX6_arrange 95 = .ok (.return_, 1) := by decide +kernel
set_option maxRecDepth 20000 in
theorem ggX6_arrangeFrom_X6_isBetter : GoodIn wsX6_arrangeFrom wsX6_isBetter := goodIn_r _ [12, 13, 14, 26, 27, 28, 29, 30, 31] (by decide +kernel) (by decide +kernel)
set_option maxRecDepth 20000 in
theorem gX6_arrangeFrom_X6_isBetter : GoodIn wsX6_arrangeFrom (wsV RX6 51 RX6 yX6_isBetter wsX6_isBetter) := goodIn_app (goodIn_of _ (by decide +kernel)) ggX6_arrangeFrom_X6_isBetter
set_option maxRecDepth 20000 in
theorem ggX6_arrangeFrom_X6_keep : GoodIn wsX6_arrangeFrom wsX6_keep := goodIn_r _ [18, 13, 14, 2, 19, 20, 21, 22, 23, 26, 27, 28, 29, 30, 31] (by decide +kernel) (by decide +kernel)
set_option maxRecDepth 20000 in
theorem gX6_arrangeFrom_X6_keep : GoodIn wsX6_arrangeFrom (wsV RX6 55 RX6 yX6_keep wsX6_keep) := goodIn_app (goodIn_of _ (by decide +kernel)) ggX6_arrangeFrom_X6_keep
set_option maxRecDepth 20000 in
theorem ggX6_arrangeFrom_X6_arrangeFrom : GoodIn wsX6_arrangeFrom wsX6_arrangeFrom := goodIn_r _ [0, 1, 2, 3, 4, 5, 6, 7, 8, 9, 10, 11, 12, 13, 14, 15, 16, 17, 18, 19, 20, 21, 22, 23, 24, 25, 26, 27, 28, 29, 30, 31] (by decide +kernel) (by decide +kernel)
set_option maxRecDepth 20000 in
theorem gX6_arrangeFrom_X6_arrangeFrom : GoodIn wsX6_arrangeFrom (va_wsS RX6 47 yX6_arrangeFrom wsX6_arrangeFrom) := goodIn_app (goodIn_of _ (by decide +kernel)) ggX6_arrangeFrom_X6_arrangeFrom
theorem dX6_arrangeFrom_0 : decode cX6_arrangeFrom 0 = .ok (.aload_n 0, 1) := by decide +kernel
theorem dX6_arrangeFrom_1 : decode cX6_arrangeFrom 1 = .ok (.iload_n 3, 1) := by decide +kernel
theorem dX6_arrangeFrom_2 : decode cX6_arrangeFrom 2 = .ok (.iload 4, 2) := by decide +kernel
theorem dX6_arrangeFrom_4 : decode cX6_arrangeFrom 4 = .ok (.invokevirtual 51, 3) := by decide +kernel
theorem dX6_arrangeFrom_7 : decode cX6_arrangeFrom 7 = .ok (.ifCond .ne 4, 3) := by decide +kernel
theorem dX6_arrangeFrom_10 : decode cX6_arrangeFrom 10 = .ok (.return_, 1) := by decide +kernel
theorem dX6_arrangeFrom_11 : decode cX6_arrangeFrom 11 = .ok (.iload_n 1, 1) := by decide +kernel
theorem dX6_arrangeFrom_12 : decode cX6_arrangeFrom 12 = .ok (.aload_n 0, 1) := by decide +kernel
theorem dX6_arrangeFrom_13 : decode cX6_arrangeFrom 13 = .ok (.getfield 29, 3) := by decide +kernel
theorem dX6_arrangeFrom_16 : decode cX6_arrangeFrom 16 = .ok (.if_icmp .ge 8, 3) := by decide +kernel
theorem dX6_arrangeFrom_19 : decode cX6_arrangeFrom 19 = .ok (.iload_n 1, 1) := by decide +kernel
theorem dX6_arrangeFrom_20 : decode cX6_arrangeFrom 20 = .ok (.iconst 5, 1) := by decide +kernel
theorem dX6_arrangeFrom_21 : decode cX6_arrangeFrom 21 = .ok (.if_icmp .lt 11, 3) := by decide +kernel
theorem dX6_arrangeFrom_24 : decode cX6_arrangeFrom 24 = .ok (.aload_n 0, 1) := by decide +kernel
theorem dX6_arrangeFrom_25 : decode cX6_arrangeFrom 25 = .ok (.iload_n 3, 1) := by decide +kernel
theorem dX6_arrangeFrom_26 : decode cX6_arrangeFrom 26 = .ok (.iload 4, 2) := by decide +kernel
theorem dX6_arrangeFrom_28 : decode cX6_arrangeFrom 28 = .ok (.invokevirtual 55, 3) := by decide +kernel
theorem dX6_arrangeFrom_31 : decode cX6_arrangeFrom 31 = .ok (.return_, 1) := by decide +kernel
theorem dX6_arrangeFrom_32 : decode cX6_arrangeFrom 32 = .ok (.iload_n 2, 1) := by decide +kernel
theorem dX6_arrangeFrom_33 : decode cX6_arrangeFrom 33 = .ok (.iload_n 1, 1) := by decide +kernel
theorem dX6_arrangeFrom_34 : decode cX6_arrangeFrom 34 = .ok (.ishr, 1) := by decide +kernel
theorem dX6_arrangeFrom_35 : decode cX6_arrangeFrom 35 = .ok (.iconst 1, 1) := by decide +kernel
theorem dX6_arrangeFrom_36 : decode cX6_arrangeFrom 36 = .ok (.iand, 1) := by decide +kernel
theorem dX6_arrangeFrom_37 : decode cX6_arrangeFrom 37 = .ok (.ifCond .eq 15, 3) := by decide +kernel
theorem dX6_arrangeFrom_40 : decode cX6_arrangeFrom 40 = .ok (.aload_n 0, 1) := by decide +kernel
theorem dX6_arrangeFrom_41 : decode cX6_arrangeFrom 41 = .ok (.iload_n 1, 1) := by decide +kernel
theorem dX6_arrangeFrom_42 : decode cX6_arrangeFrom 42 = .ok (.iconst 1, 1) := by decide +kernel
theorem dX6_arrangeFrom_43 : decode cX6_arrangeFrom 43 = .ok (.iadd, 1) := by decide +kernel
theorem dX6_arrangeFrom_44 : decode cX6_arrangeFrom 44 = .ok (.iload_n 2, 1) := by decide +kernel
theorem dX6_arrangeFrom_45 : decode cX6_arrangeFrom 45 = .ok (.iload_n 3, 1) := by decide +kernel
theorem dX6_arrangeFrom_46 : decode cX6_arrangeFrom 46 = .ok (.iload 4, 2) := by decide +kernel
theorem dX6_arrangeFrom_48 : decode cX6_arrangeFrom 48 = .ok (.invokestatic 47, 3) := by decide +kernel
theorem dX6_arrangeFrom_51 : decode cX6_arrangeFrom 51 = .ok (.return_, 1) := by decide +kernel
theorem dX6_arrangeFrom_52 : decode cX6_arrangeFrom 52 = .ok (.aload_n 0, 1) := by decide +kernel
theorem dX6_arrangeFrom_53 : decode cX6_arrangeFrom 53 = .ok (.getfield 16, 3) := by decide +kernel
theorem dX6_arrangeFrom_56 : decode cX6_arrangeFrom 56 = .ok (.iload_n 1, 1) := by decide +kernel
theorem dX6_arrangeFrom_57 : decode cX6_arrangeFrom 57 = .ok (.iconst (-1), 1) := by decide +kernel
theorem dX6_arrangeFrom_58 : decode cX6_arrangeFrom 58 = .ok (.iastore, 1) := by decide +kernel
theorem dX6_arrangeFrom_59 : decode cX6_arrangeFrom 59 = .ok (.aload_n 0, 1) := by decide +kernel
theorem dX6_arrangeFrom_60 : decode cX6_arrangeFrom 60 = .ok (.iload_n 1, 1) := by decide +kernel
theorem dX6_arrangeFrom_61 : decode cX6_arrangeFrom 61 = .ok (.iconst 1, 1) := by decide +kernel
theorem dX6_arrangeFrom_62 : decode cX6_arrangeFrom 62 = .ok (.iadd, 1) := by decide +kernel
theorem dX6_arrangeFrom_63 : decode cX6_arrangeFrom 63 = .ok (.iload_n 2, 1) := by decide +kernel
theorem dX6_arrangeFrom_64 : decode cX6_arrangeFrom 64 = .ok (.iload_n 3, 1) := by decide +kernel
theorem dX6_arrangeFrom_65 : decode cX6_arrangeFrom 65 = .ok (.aload_n 0, 1) := by decide +kernel
theorem dX6_arrangeFrom_66 : decode cX6_arrangeFrom 66 = .ok (.getfield 11, 3) := by decide +kernel
theorem dX6_arrangeFrom_69 : decode cX6_arrangeFrom 69 = .ok (.iload_n 1, 1) := by decide +kernel
theorem dX6_arrangeFrom_70 : decode cX6_arrangeFrom 70 = .ok (.aaload, 1) := by decide +kernel
theorem dX6_arrangeFrom_71 : decode cX6_arrangeFrom 71 = .ok (.iload_n 1, 1) := by decide +kernel
theorem dX6_arrangeFrom_72 : decode cX6_arrangeFrom 72 = .ok (.iaload, 1) := by decide +kernel
theorem dX6_arrangeFrom_73 : decode cX6_arrangeFrom 73 = .ok (.invokestatic 59, 3) := by decide +kernel
theorem dX6_arrangeFrom_76 : decode cX6_arrangeFrom 76 = .ok (.iload 4, 2) := by decide +kernel
theorem dX6_arrangeFrom_78 : decode cX6_arrangeFrom 78 = .ok (.invokestatic 47, 3) := by decide +kernel
theorem dX6_arrangeFrom_81 : decode cX6_arrangeFrom 81 = .ok (.iload_n 1, 1) := by decide +kernel
theorem dX6_arrangeFrom_82 : decode cX6_arrangeFrom 82 = .ok (.iconst 1, 1) := by decide +kernel
theorem dX6_arrangeFrom_83 : decode cX6_arrangeFrom 83 = .ok (.iadd, 1) := by decide +kernel
theorem dX6_arrangeFrom_84 : decode cX6_arrangeFrom 84 = .ok (.istore 5, 2) := by decide +kernel
theorem dX6_arrangeFrom_86 : decode cX6_arrangeFrom 86 = .ok (.iload 5, 2) := by decide +kernel
theorem dX6_arrangeFrom_88 : decode cX6_arrangeFrom 88 = .ok (.aload_n 0, 1) := by decide +kernel
theorem dX6_arrangeFrom_89 : decode cX6_arrangeFrom 89 = .ok (.getfield 29, 3) := by decide +kernel
theorem dX6_arrangeFrom_92 : decode cX6_arrangeFrom 92 = .ok (.if_icmp .ge 64, 3) := by decide +kernel
theorem dX6_arrangeFrom_95 : decode cX6_arrangeFrom 95 = .ok (.iload_n 2, 1) := by decide +kernel
theorem dX6_arrangeFrom_96 : decode cX6_arrangeFrom 96 = .ok (.iload 5, 2) := by decide +kernel
theorem dX6_arrangeFrom_98 : decode cX6_arrangeFrom 98 = .ok (.ishr, 1) := by decide +kernel
theorem dX6_arrangeFrom_99 : decode cX6_arrangeFrom 99 = .ok (.iconst 1, 1) := by decide +kernel
theorem dX6_arrangeFrom_100 : decode cX6_arrangeFrom 100 = .ok (.iand, 1) := by decide +kernel
theorem dX6_arrangeFrom_101 : decode cX6_arrangeFrom 101 = .ok (.ifCond .ne 49, 3) := by decide +kernel
theorem dX6_arrangeFrom_104 : decode cX6_arrangeFrom 104 = .ok (.aload_n 0, 1) := by decide +kernel
theorem dX6_arrangeFrom_105 : decode cX6_arrangeFrom 105 = .ok (.getfield 16, 3) := by decide +kernel
theorem dX6_arrangeFrom_108 : decode cX6_arrangeFrom 108 = .ok (.iload_n 1, 1) := by decide +kernel
theorem dX6_arrangeFrom_109 : decode cX6_arrangeFrom 109 = .ok (.iload 5, 2) := by decide +kernel
theorem dX6_arrangeFrom_111 : decode cX6_arrangeFrom 111 = .ok (.iastore, 1) := by decide +kernel
theorem dX6_arrangeFrom_112 : decode cX6_arrangeFrom 112 = .ok (.aload_n 0, 1) := by decide +kernel
theorem dX6_arrangeFrom_113 : decode cX6_arrangeFrom 113 = .ok (.getfield 16, 3) := by decide +kernel
theorem dX6_arrangeFrom_116 : decode cX6_arrangeFrom 116 = .ok (.iload 5, 2) := by decide +kernel
theorem dX6_arrangeFrom_118 : decode cX6_arrangeFrom 118 = .ok (.iload_n 1, 1) := by decide +kernel
theorem dX6_arrangeFrom_119 : decode cX6_arrangeFrom 119 = .ok (.iastore, 1) := by decide +kernel
theorem dX6_arrangeFrom_120 : decode cX6_arrangeFrom 120 = .ok (.aload_n 0, 1) := by decide +kernel
theorem dX6_arrangeFrom_121 : decode cX6_arrangeFrom 121 = .ok (.iload_n 1, 1) := by decide +kernel
theorem dX6_arrangeFrom_122 : decode cX6_arrangeFrom 122 = .ok (.iconst 1, 1) := by decide +kernel
theorem dX6_arrangeFrom_123 : decode cX6_arrangeFrom 123 = .ok (.iadd, 1) := by decide +kernel
theorem dX6_arrangeFrom_124 : decode cX6_arrangeFrom 124 = .ok (.iload_n 2, 1) := by decide +kernel
theorem dX6_arrangeFrom_125 : decode cX6_arrangeFrom 125 = .ok (.iconst 1, 1) := by decide +kernel
theorem dX6_arrangeFrom_126 : decode cX6_arrangeFrom 126 = .ok (.iload 5, 2) := by decide +kernel
theorem dX6_arrangeFrom_128 : decode cX6_arrangeFrom 128 = .ok (.ishl, 1) := by decide +kernel
theorem dX6_arrangeFrom_129 : decode cX6_arrangeFrom 129 = .ok (.ior, 1) := by decide +kernel
theorem dX6_arrangeFrom_130 : decode cX6_arrangeFrom 130 = .ok (.iload_n 3, 1) := by decide +kernel
theorem dX6_arrangeFrom_131 : decode cX6_arrangeFrom 131 = .ok (.aload_n 0, 1) := by decide +kernel
theorem dX6_arrangeFrom_132 : decode cX6_arrangeFrom 132 = .ok (.getfield 11, 3) := by decide +kernel
theorem dX6_arrangeFrom_135 : decode cX6_arrangeFrom 135 = .ok (.iload_n 1, 1) := by decide +kernel
theorem dX6_arrangeFrom_136 : decode cX6_arrangeFrom 136 = .ok (.aaload, 1) := by decide +kernel
theorem dX6_arrangeFrom_137 : decode cX6_arrangeFrom 137 = .ok (.iload 5, 2) := by decide +kernel
theorem dX6_arrangeFrom_139 : decode cX6_arrangeFrom 139 = .ok (.iaload, 1) := by decide +kernel
theorem dX6_arrangeFrom_140 : decode cX6_arrangeFrom 140 = .ok (.invokestatic 59, 3) := by decide +kernel
theorem dX6_arrangeFrom_143 : decode cX6_arrangeFrom 143 = .ok (.iload 4, 2) := by decide +kernel
theorem dX6_arrangeFrom_145 : decode cX6_arrangeFrom 145 = .ok (.iconst 1, 1) := by decide +kernel
theorem dX6_arrangeFrom_146 : decode cX6_arrangeFrom 146 = .ok (.iadd, 1) := by decide +kernel
theorem dX6_arrangeFrom_147 : decode cX6_arrangeFrom 147 = .ok (.invokestatic 47, 3) := by decide +kernel
theorem dX6_arrangeFrom_150 : decode cX6_arrangeFrom 150 = .ok (.iinc 5 1, 3) := by decide +kernel
theorem dX6_arrangeFrom_153 : decode cX6_arrangeFrom 153 = .ok (.goto (-67), 3) := by decide +kernel
theorem dX6_arrangeFrom_156 : decode cX6_arrangeFrom 156 = .ok (.return_, 1) := by decide +kernel
theorem dX6_isBetter_0 : decode cX6_isBetter 0 = .ok (.iload_n 1, 1) := by decide +kernel
theorem dX6_isBetter_1 : decode cX6_isBetter 1 = .ok (.aload_n 0, 1) := by decide +kernel
theorem dX6_isBetter_2 : decode cX6_isBetter 2 = .ok (.getfield 41, 3) := by decide +kernel
theorem dX6_isBetter_5 : decode cX6_isBetter 5 = .ok (.if_icmp .lt 19, 3) := by decide +kernel
theorem dX6_isBetter_8 : decode cX6_isBetter 8 = .ok (.iload_n 1, 1) := by decide +kernel
theorem dX6_isBetter_9 : decode cX6_isBetter 9 = .ok (.aload_n 0, 1) := by decide +kernel
theorem dX6_isBetter_10 : decode cX6_isBetter 10 = .ok (.getfield 41, 3) := by decide +kernel
theorem dX6_isBetter_13 : decode cX6_isBetter 13 = .ok (.if_icmp .ne 15, 3) := by decide +kernel
theorem dX6_isBetter_16 : decode cX6_isBetter 16 = .ok (.iload_n 2, 1) := by decide +kernel
theorem dX6_isBetter_17 : decode cX6_isBetter 17 = .ok (.aload_n 0, 1) := by decide +kernel
theorem dX6_isBetter_18 : decode cX6_isBetter 18 = .ok (.getfield 44, 3) := by decide +kernel
theorem dX6_isBetter_21 : decode cX6_isBetter 21 = .ok (.if_icmp .ge 7, 3) := by decide +kernel
theorem dX6_isBetter_24 : decode cX6_isBetter 24 = .ok (.iconst 1, 1) := by decide +kernel
theorem dX6_isBetter_25 : decode cX6_isBetter 25 = .ok (.goto 4, 3) := by decide +kernel
theorem dX6_isBetter_28 : decode cX6_isBetter 28 = .ok (.iconst 0, 1) := by decide +kernel
theorem dX6_isBetter_29 : decode cX6_isBetter 29 = .ok (.ireturn, 1) := by decide +kernel
theorem dX6_keep_0 : decode cX6_keep 0 = .ok (.aload_n 0, 1) := by decide +kernel
theorem dX6_keep_1 : decode cX6_keep 1 = .ok (.iload_n 1, 1) := by decide +kernel
theorem dX6_keep_2 : decode cX6_keep 2 = .ok (.putfield 41, 3) := by decide +kernel
theorem dX6_keep_5 : decode cX6_keep 5 = .ok (.aload_n 0, 1) := by decide +kernel
theorem dX6_keep_6 : decode cX6_keep 6 = .ok (.iload_n 2, 1) := by decide +kernel
theorem dX6_keep_7 : decode cX6_keep 7 = .ok (.putfield 44, 3) := by decide +kernel
theorem dX6_keep_10 : decode cX6_keep 10 = .ok (.aload_n 0, 1) := by decide +kernel
theorem dX6_keep_11 : decode cX6_keep 11 = .ok (.getfield 16, 3) := by decide +kernel
theorem dX6_keep_14 : decode cX6_keep 14 = .ok (.iconst 0, 1) := by decide +kernel
theorem dX6_keep_15 : decode cX6_keep 15 = .ok (.aload_n 0, 1) := by decide +kernel
theorem dX6_keep_16 : decode cX6_keep 16 = .ok (.getfield 20, 3) := by decide +kernel
theorem dX6_keep_19 : decode cX6_keep 19 = .ok (.iconst 0, 1) := by decide +kernel
theorem dX6_keep_20 : decode cX6_keep 20 = .ok (.iconst 5, 1) := by decide +kernel
theorem dX6_keep_21 : decode cX6_keep 21 = .ok (.invokestatic 64, 3) := by decide +kernel
theorem dX6_keep_24 : decode cX6_keep 24 = .ok (.return_, 1) := by decide +kernel
set_option maxRecDepth 20000 in
theorem ggX6_partnerOf_X2_hasPerson : GoodIn wsX6_partnerOf wsX2_hasPerson := goodIn_r _ [6, 7, 14, 15, 16, 17, 18, 19, 20, 21, 22, 23, 24, 25, 26, 27, 28, 29, 30, 31] (by decide +kernel) (by decide +kernel)
set_option maxRecDepth 20000 in
theorem gX6_partnerOf_X2_hasPerson : GoodIn wsX6_partnerOf (wsV RX6 70 RX2 yX2_hasPerson wsX2_hasPerson) := goodIn_app (goodIn_of _ (by decide +kernel)) ggX6_partnerOf_X2_hasPerson
theorem dX6_partnerOf_0 : decode cX6_partnerOf 0 = .ok (.aload_n 1, 1) := by decide +kernel
theorem dX6_partnerOf_1 : decode cX6_partnerOf 1 = .ok (.iload_n 2, 1) := by decide +kernel
theorem dX6_partnerOf_2 : decode cX6_partnerOf 2 = .ok (.invokevirtual 70, 3) := by decide +kernel
theorem dX6_partnerOf_5 : decode cX6_partnerOf 5 = .ok (.ifCond .eq 12, 3) := by decide +kernel
theorem dX6_partnerOf_8 : decode cX6_partnerOf 8 = .ok (.aload_n 0, 1) := by decide +kernel
theorem dX6_partnerOf_9 : decode cX6_partnerOf 9 = .ok (.getfield 20, 3) := by decide +kernel
theorem dX6_partnerOf_12 : decode cX6_partnerOf 12 = .ok (.iload_n 2, 1) := by decide +kernel
theorem dX6_partnerOf_13 : decode cX6_partnerOf 13 = .ok (.iaload, 1) := by decide +kernel
theorem dX6_partnerOf_14 : decode cX6_partnerOf 14 = .ok (.goto 4, 3) := by decide +kernel
theorem dX6_partnerOf_17 : decode cX6_partnerOf 17 = .ok (.iconst (-1), 1) := by decide +kernel
theorem dX6_partnerOf_18 : decode cX6_partnerOf 18 = .ok (.ireturn, 1) := by decide +kernel
set_option maxRecDepth 20000 in
theorem ggX7_possibleLies_X7_isAsSeen : GoodIn wsX7_possibleLies wsX7_isAsSeen := goodIn_r _ [4, 5, 6, 7, 8, 9, 10, 11, 12, 13, 14, 15, 16, 17, 18, 19, 20, 21, 22, 23, 24, 25, 26, 27, 28, 29, 30, 31, 32, 33, 34, 35, 36, 37, 38, 39, 40, 41, 42, 43, 44, 45, 46, 47, 48, 49, 50, 51, 52, 53, 54, 55, 56, 57, 58, 59, 60, 61, 62, 63, 64, 65, 66, 67, 68, 69, 70, 71, 72] (by decide +kernel) (by decide +kernel)
set_option maxRecDepth 20000 in
theorem gX7_possibleLies_X7_isAsSeen : GoodIn wsX7_possibleLies (va_wsS RX7 9 yX7_isAsSeen wsX7_isAsSeen) := goodIn_app (goodIn_of _ (by decide +kernel)) ggX7_possibleLies_X7_isAsSeen
theorem dX7_possibleLies_0 : decode cX7_possibleLies 0 = .ok (.iconst 0, 1) := by decide +kernel
theorem dX7_possibleLies_1 : decode cX7_possibleLies 1 = .ok (.istore_n 2, 1) := by decide +kernel
theorem dX7_possibleLies_2 : decode cX7_possibleLies 2 = .ok (.iconst 0, 1) := by decide +kernel
theorem dX7_possibleLies_3 : decode cX7_possibleLies 3 = .ok (.istore_n 3, 1) := by decide +kernel
theorem dX7_possibleLies_4 : decode cX7_possibleLies 4 = .ok (.iload_n 3, 1) := by decide +kernel
theorem dX7_possibleLies_5 : decode cX7_possibleLies 5 = .ok (.bipush 9, 2) := by decide +kernel
theorem dX7_possibleLies_7 : decode cX7_possibleLies 7 = .ok (.if_icmp .gt 24, 3) := by decide +kernel
theorem dX7_possibleLies_10 : decode cX7_possibleLies 10 = .ok (.aload_n 0, 1) := by decide +kernel
theorem dX7_possibleLies_11 : decode cX7_possibleLies 11 = .ok (.iload_n 1, 1) := by decide +kernel
theorem dX7_possibleLies_12 : decode cX7_possibleLies 12 = .ok (.iload_n 3, 1) := by decide +kernel
theorem dX7_possibleLies_13 : decode cX7_possibleLies 13 = .ok (.invokestatic 9, 3) := by decide +kernel
theorem dX7_possibleLies_16 : decode cX7_possibleLies 16 = .ok (.ifCond .eq 9, 3) := by decide +kernel
theorem dX7_possibleLies_19 : decode cX7_possibleLies 19 = .ok (.iload_n 2, 1) := by decide +kernel
theorem dX7_possibleLies_20 : decode cX7_possibleLies 20 = .ok (.iconst 1, 1) := by decide +kernel
theorem dX7_possibleLies_21 : decode cX7_possibleLies 21 = .ok (.iload_n 3, 1) := by decide +kernel
theorem dX7_possibleLies_22 : decode cX7_possibleLies 22 = .ok (.ishl, 1) := by decide +kernel
theorem dX7_possibleLies_23 : decode cX7_possibleLies 23 = .ok (.ior, 1) := by decide +kernel
theorem dX7_possibleLies_24 : decode cX7_possibleLies 24 = .ok (.istore_n 2, 1) := by decide +kernel
theorem dX7_possibleLies_25 : decode cX7_possibleLies 25 = .ok (.iinc 3 1, 3) := by decide +kernel
theorem dX7_possibleLies_28 : decode cX7_possibleLies 28 = .ok (.goto (-24), 3) := by decide +kernel
theorem dX7_possibleLies_31 : decode cX7_possibleLies 31 = .ok (.iload_n 2, 1) := by decide +kernel
theorem dX7_possibleLies_32 : decode cX7_possibleLies 32 = .ok (.ireturn, 1) := by decide +kernel
set_option maxRecDepth 20000 in
theorem ggX7_isAsSeen_X2_stepsWithLies : GoodIn wsX7_isAsSeen wsX2_stepsWithLies := goodIn_r _ [10, 11, 12, 13, 14, 15, 16, 9, 17, 18, 19, 20, 21, 22, 23, 24, 25, 26, 27, 28, 29, 30, 31, 32, 33, 34, 35, 36, 37, 38, 39, 40, 41, 42, 43, 44, 45, 46, 47, 48, 49, 50, 51, 52, 53, 54, 55, 56, 57, 58, 59, 60, 61, 62, 63, 64, 65, 66, 67, 68] (by decide +kernel) (by decide +kernel)
set_option maxRecDepth 20000 in
theorem gX7_isAsSeen_X2_stepsWithLies : GoodIn wsX7_isAsSeen (wsV RX7 34 RX2 yX2_stepsWithLies wsX2_stepsWithLies) := goodIn_app (goodIn_of _ (by decide +kernel)) ggX7_isAsSeen_X2_stepsWithLies
theorem dX7_isAsSeen_0 : decode cX7_isAsSeen 0 = .ok (.iconst 0, 1) := by decide +kernel
theorem dX7_isAsSeen_1 : decode cX7_isAsSeen 1 = .ok (.istore_n 3, 1) := by decide +kernel
theorem dX7_isAsSeen_2 : decode cX7_isAsSeen 2 = .ok (.iload_n 3, 1) := by decide +kernel
theorem dX7_isAsSeen_3 : decode cX7_isAsSeen 3 = .ok (.aload_n 0, 1) := by decide +kernel
theorem dX7_isAsSeen_4 : decode cX7_isAsSeen 4 = .ok (.getfield 15, 3) := by decide +kernel
theorem dX7_isAsSeen_7 : decode cX7_isAsSeen 7 = .ok (.if_icmp .ge 54, 3) := by decide +kernel
theorem dX7_isAsSeen_10 : decode cX7_isAsSeen 10 = .ok (.iload_n 3, 1) := by decide +kernel
theorem dX7_isAsSeen_11 : decode cX7_isAsSeen 11 = .ok (.bipush 6, 2) := by decide +kernel
theorem dX7_isAsSeen_13 : decode cX7_isAsSeen 13 = .ok (.if_icmp .ge 48, 3) := by decide +kernel
theorem dX7_isAsSeen_16 : decode cX7_isAsSeen 16 = .ok (.aload_n 0, 1) := by decide +kernel
theorem dX7_isAsSeen_17 : decode cX7_isAsSeen 17 = .ok (.getfield 21, 3) := by decide +kernel
theorem dX7_isAsSeen_20 : decode cX7_isAsSeen 20 = .ok (.iload_n 3, 1) := by decide +kernel
theorem dX7_isAsSeen_21 : decode cX7_isAsSeen 21 = .ok (.iaload, 1) := by decide +kernel
theorem dX7_isAsSeen_22 : decode cX7_isAsSeen 22 = .ok (.iload_n 1, 1) := by decide +kernel
theorem dX7_isAsSeen_23 : decode cX7_isAsSeen 23 = .ok (.if_icmp .ne 32, 3) := by decide +kernel
theorem dX7_isAsSeen_26 : decode cX7_isAsSeen 26 = .ok (.aload_n 0, 1) := by decide +kernel
theorem dX7_isAsSeen_27 : decode cX7_isAsSeen 27 = .ok (.getfield 25, 3) := by decide +kernel
theorem dX7_isAsSeen_30 : decode cX7_isAsSeen 30 = .ok (.iload_n 3, 1) := by decide +kernel
theorem dX7_isAsSeen_31 : decode cX7_isAsSeen 31 = .ok (.iaload, 1) := by decide +kernel
theorem dX7_isAsSeen_32 : decode cX7_isAsSeen 32 = .ok (.aload_n 0, 1) := by decide +kernel
theorem dX7_isAsSeen_33 : decode cX7_isAsSeen 33 = .ok (.iload_n 1, 1) := by decide +kernel
theorem dX7_isAsSeen_34 : decode cX7_isAsSeen 34 = .ok (.aload_n 0, 1) := by decide +kernel
theorem dX7_isAsSeen_35 : decode cX7_isAsSeen 35 = .ok (.getfield 28, 3) := by decide +kernel
theorem dX7_isAsSeen_38 : decode cX7_isAsSeen 38 = .ok (.iload_n 3, 1) := by decide +kernel
theorem dX7_isAsSeen_39 : decode cX7_isAsSeen 39 = .ok (.iaload, 1) := by decide +kernel
theorem dX7_isAsSeen_40 : decode cX7_isAsSeen 40 = .ok (.aload_n 0, 1) := by decide +kernel
theorem dX7_isAsSeen_41 : decode cX7_isAsSeen 41 = .ok (.getfield 31, 3) := by decide +kernel
theorem dX7_isAsSeen_44 : decode cX7_isAsSeen 44 = .ok (.iload_n 3, 1) := by decide +kernel
theorem dX7_isAsSeen_45 : decode cX7_isAsSeen 45 = .ok (.iaload, 1) := by decide +kernel
theorem dX7_isAsSeen_46 : decode cX7_isAsSeen 46 = .ok (.iload_n 2, 1) := by decide +kernel
theorem dX7_isAsSeen_47 : decode cX7_isAsSeen 47 = .ok (.invokevirtual 34, 3) := by decide +kernel
theorem dX7_isAsSeen_50 : decode cX7_isAsSeen 50 = .ok (.if_icmp .eq 5, 3) := by decide +kernel
theorem dX7_isAsSeen_53 : decode cX7_isAsSeen 53 = .ok (.iconst 0, 1) := by decide +kernel
theorem dX7_isAsSeen_54 : decode cX7_isAsSeen 54 = .ok (.ireturn, 1) := by decide +kernel
theorem dX7_isAsSeen_55 : decode cX7_isAsSeen 55 = .ok (.iinc 3 1, 3) := by decide +kernel
theorem dX7_isAsSeen_58 : decode cX7_isAsSeen 58 = .ok (.goto (-56), 3) := by decide +kernel
theorem dX7_isAsSeen_61 : decode cX7_isAsSeen 61 = .ok (.iconst 1, 1) := by decide +kernel
theorem dX7_isAsSeen_62 : decode cX7_isAsSeen 62 = .ok (.ireturn, 1) := by decide +kernel
set_option maxRecDepth 20000 in
theorem ggX7_bestQuestion_X7_possibleLies : GoodIn wsX7_bestQuestion wsX7_possibleLies := goodIn_r _ [6, 7, 8, 5, 9, 10, 11, 12, 13, 14, 15, 16, 17, 18, 19, 20, 21, 22, 23, 24, 25, 26, 27, 28, 29, 30, 31, 32, 33, 34, 35, 36, 37, 38, 39, 40, 41, 42, 43, 44, 45, 46, 47, 48, 49, 50, 51, 52, 53, 54, 55, 56, 57, 58, 59, 67, 68, 69, 70, 71, 72, 73, 74, 75, 76, 77, 78, 79, 80, 81, 82, 83, 84] (by decide +kernel) (by decide +kernel)
set_option maxRecDepth 20000 in
theorem gX7_bestQuestion_X7_possibleLies : GoodIn wsX7_bestQuestion (va_wsS RX7 38 yX7_possibleLies wsX7_possibleLies) := goodIn_app (goodIn_of _ (by decide +kernel)) ggX7_bestQuestion_X7_possibleLies
set_option maxRecDepth 20000 in
theorem ggX7_bestQuestion_X7_leftAtWorst : GoodIn wsX7_bestQuestion wsX7_leftAtWorst := goodIn_r _ [62, 63, 64, 65, 66, 15, 16, 17, 18, 19, 20, 21, 22, 23, 24, 25, 26, 27, 28, 29, 30, 31, 32, 33, 34, 35, 36, 37, 38, 39, 40, 41, 42, 43, 44, 45, 46, 47, 48, 49, 50, 51, 52, 53, 54, 55, 56, 57, 58, 59, 67, 68, 69, 70, 71, 72, 73, 74, 75, 76, 77, 78, 79, 80, 81, 82, 83, 84] (by decide +kernel) (by decide +kernel)
set_option maxRecDepth 20000 in
theorem gX7_bestQuestion_X7_leftAtWorst : GoodIn wsX7_bestQuestion (va_wsS RX7 48 yX7_leftAtWorst wsX7_leftAtWorst) := goodIn_app (goodIn_of _ (by decide +kernel)) ggX7_bestQuestion_X7_leftAtWorst
theorem dX7_bestQuestion_0 : decode cX7_bestQuestion 0 = .ok (.aload_n 0, 1) := by decide +kernel
theorem dX7_bestQuestion_1 : decode cX7_bestQuestion 1 = .ok (.iload_n 1, 1) := by decide +kernel
theorem dX7_bestQuestion_2 : decode cX7_bestQuestion 2 = .ok (.invokestatic 38, 3) := by decide +kernel
theorem dX7_bestQuestion_5 : decode cX7_bestQuestion 5 = .ok (.istore_n 2, 1) := by decide +kernel
theorem dX7_bestQuestion_6 : decode cX7_bestQuestion 6 = .ok (.iload_n 2, 1) := by decide +kernel
theorem dX7_bestQuestion_7 : decode cX7_bestQuestion 7 = .ok (.ifCond .ne 5, 3) := by decide +kernel
theorem dX7_bestQuestion_10 : decode cX7_bestQuestion 10 = .ok (.iconst (-1), 1) := by decide +kernel
theorem dX7_bestQuestion_11 : decode cX7_bestQuestion 11 = .ok (.ireturn, 1) := by decide +kernel
theorem dX7_bestQuestion_12 : decode cX7_bestQuestion 12 = .ok (.iconst (-1), 1) := by decide +kernel
theorem dX7_bestQuestion_13 : decode cX7_bestQuestion 13 = .ok (.istore_n 3, 1) := by decide +kernel
theorem dX7_bestQuestion_14 : decode cX7_bestQuestion 14 = .ok (.bipush 11, 2) := by decide +kernel
theorem dX7_bestQuestion_16 : decode cX7_bestQuestion 16 = .ok (.istore 4, 2) := by decide +kernel
theorem dX7_bestQuestion_18 : decode cX7_bestQuestion 18 = .ok (.iconst 0, 1) := by decide +kernel
theorem dX7_bestQuestion_19 : decode cX7_bestQuestion 19 = .ok (.istore 5, 2) := by decide +kernel
theorem dX7_bestQuestion_21 : decode cX7_bestQuestion 21 = .ok (.iload 5, 2) := by decide +kernel
theorem dX7_bestQuestion_23 : decode cX7_bestQuestion 23 = .ok (.aload_n 0, 1) := by decide +kernel
theorem dX7_bestQuestion_24 : decode cX7_bestQuestion 24 = .ok (.getfield 42, 3) := by decide +kernel
theorem dX7_bestQuestion_27 : decode cX7_bestQuestion 27 = .ok (.if_icmp .ge 70, 3) := by decide +kernel
theorem dX7_bestQuestion_30 : decode cX7_bestQuestion 30 = .ok (.iconst (-1), 1) := by decide +kernel
theorem dX7_bestQuestion_31 : decode cX7_bestQuestion 31 = .ok (.istore 6, 2) := by decide +kernel
theorem dX7_bestQuestion_33 : decode cX7_bestQuestion 33 = .ok (.iload 6, 2) := by decide +kernel
theorem dX7_bestQuestion_35 : decode cX7_bestQuestion 35 = .ok (.aload_n 0, 1) := by decide +kernel
theorem dX7_bestQuestion_36 : decode cX7_bestQuestion 36 = .ok (.getfield 45, 3) := by decide +kernel
theorem dX7_bestQuestion_39 : decode cX7_bestQuestion 39 = .ok (.if_icmp .ge 52, 3) := by decide +kernel
theorem dX7_bestQuestion_42 : decode cX7_bestQuestion 42 = .ok (.iload 6, 2) := by decide +kernel
theorem dX7_bestQuestion_44 : decode cX7_bestQuestion 44 = .ok (.iload_n 1, 1) := by decide +kernel
theorem dX7_bestQuestion_45 : decode cX7_bestQuestion 45 = .ok (.if_icmp .ne 6, 3) := by decide +kernel
theorem dX7_bestQuestion_48 : decode cX7_bestQuestion 48 = .ok (.goto 37, 3) := by decide +kernel
theorem dX7_bestQuestion_51 : decode cX7_bestQuestion 51 = .ok (.aload_n 0, 1) := by decide +kernel
theorem dX7_bestQuestion_52 : decode cX7_bestQuestion 52 = .ok (.iload_n 1, 1) := by decide +kernel
theorem dX7_bestQuestion_53 : decode cX7_bestQuestion 53 = .ok (.iload 5, 2) := by decide +kernel
theorem dX7_bestQuestion_55 : decode cX7_bestQuestion 55 = .ok (.iload 6, 2) := by decide +kernel
theorem dX7_bestQuestion_57 : decode cX7_bestQuestion 57 = .ok (.iload_n 2, 1) := by decide +kernel
theorem dX7_bestQuestion_58 : decode cX7_bestQuestion 58 = .ok (.invokestatic 48, 3) := by decide +kernel
theorem dX7_bestQuestion_61 : decode cX7_bestQuestion 61 = .ok (.istore 7, 2) := by decide +kernel
theorem dX7_bestQuestion_63 : decode cX7_bestQuestion 63 = .ok (.iload 7, 2) := by decide +kernel
theorem dX7_bestQuestion_65 : decode cX7_bestQuestion 65 = .ok (.iload 4, 2) := by decide +kernel
theorem dX7_bestQuestion_67 : decode cX7_bestQuestion 67 = .ok (.if_icmp .ge 18, 3) := by decide +kernel
theorem dX7_bestQuestion_70 : decode cX7_bestQuestion 70 = .ok (.iload 7, 2) := by decide +kernel
theorem dX7_bestQuestion_72 : decode cX7_bestQuestion 72 = .ok (.istore 4, 2) := by decide +kernel
theorem dX7_bestQuestion_74 : decode cX7_bestQuestion 74 = .ok (.bipush 10, 2) := by decide +kernel
theorem dX7_bestQuestion_76 : decode cX7_bestQuestion 76 = .ok (.iload 5, 2) := by decide +kernel
theorem dX7_bestQuestion_78 : decode cX7_bestQuestion 78 = .ok (.imul, 1) := by decide +kernel
theorem dX7_bestQuestion_79 : decode cX7_bestQuestion 79 = .ok (.iload 6, 2) := by decide +kernel
theorem dX7_bestQuestion_81 : decode cX7_bestQuestion 81 = .ok (.iadd, 1) := by decide +kernel
theorem dX7_bestQuestion_82 : decode cX7_bestQuestion 82 = .ok (.iconst 1, 1) := by decide +kernel
theorem dX7_bestQuestion_83 : decode cX7_bestQuestion 83 = .ok (.iadd, 1) := by decide +kernel
theorem dX7_bestQuestion_84 : decode cX7_bestQuestion 84 = .ok (.istore_n 3, 1) := by decide +kernel
theorem dX7_bestQuestion_85 : decode cX7_bestQuestion 85 = .ok (.iinc 6 1, 3) := by decide +kernel
theorem dX7_bestQuestion_88 : decode cX7_bestQuestion 88 = .ok (.goto (-55), 3) := by decide +kernel
theorem dX7_bestQuestion_91 : decode cX7_bestQuestion 91 = .ok (.iinc 5 1, 3) := by decide +kernel
theorem dX7_bestQuestion_94 : decode cX7_bestQuestion 94 = .ok (.goto (-73), 3) := by decide +kernel
theorem dX7_bestQuestion_97 : decode cX7_bestQuestion 97 = .ok (.iload_n 3, 1) := by decide +kernel
theorem dX7_bestQuestion_98 : decode cX7_bestQuestion 98 = .ok (.ireturn, 1) := by decide +kernel
set_option maxRecDepth 20000 in
theorem ggX7_leftAtWorst_X2_stepsWithLies : GoodIn wsX7_leftAtWorst wsX2_stepsWithLies := goodIn_r _ [9, 10, 11, 12, 13, 14, 15, 8, 16, 17, 18, 19, 20, 21, 22, 23, 24, 25, 26, 27, 28, 29, 30, 31, 32, 33, 34, 35, 36, 37, 38, 39, 40, 41, 42, 43, 44, 45, 46, 47, 48, 49, 50, 51, 52, 53, 54, 55, 56, 57, 58, 59, 60, 61, 62, 63, 64, 65, 66, 67] (by decide +kernel) (by decide +kernel)
set_option maxRecDepth 20000 in
theorem gX7_leftAtWorst_X2_stepsWithLies : GoodIn wsX7_leftAtWorst (wsV RX7 34 RX2 yX2_stepsWithLies wsX2_stepsWithLies) := goodIn_app (goodIn_of _ (by decide +kernel)) ggX7_leftAtWorst_X2_stepsWithLies
theorem dX7_leftAtWorst_0 : decode cX7_leftAtWorst 0 = .ok (.iconst 0, 1) := by decide +kernel
theorem dX7_leftAtWorst_1 : decode cX7_leftAtWorst 1 = .ok (.istore 5, 2) := by decide +kernel
theorem dX7_leftAtWorst_3 : decode cX7_leftAtWorst 3 = .ok (.iconst 0, 1) := by decide +kernel
theorem dX7_leftAtWorst_4 : decode cX7_leftAtWorst 4 = .ok (.istore 6, 2) := by decide +kernel
theorem dX7_leftAtWorst_6 : decode cX7_leftAtWorst 6 = .ok (.iconst (-1), 1) := by decide +kernel
theorem dX7_leftAtWorst_7 : decode cX7_leftAtWorst 7 = .ok (.istore 7, 2) := by decide +kernel
theorem dX7_leftAtWorst_9 : decode cX7_leftAtWorst 9 = .ok (.iconst 0, 1) := by decide +kernel
theorem dX7_leftAtWorst_10 : decode cX7_leftAtWorst 10 = .ok (.istore 8, 2) := by decide +kernel
theorem dX7_leftAtWorst_12 : decode cX7_leftAtWorst 12 = .ok (.iload 8, 2) := by decide +kernel
theorem dX7_leftAtWorst_14 : decode cX7_leftAtWorst 14 = .ok (.bipush 9, 2) := by decide +kernel
theorem dX7_leftAtWorst_16 : decode cX7_leftAtWorst 16 = .ok (.if_icmp .gt 60, 3) := by decide +kernel
theorem dX7_leftAtWorst_19 : decode cX7_leftAtWorst 19 = .ok (.iload 4, 2) := by decide +kernel
theorem dX7_leftAtWorst_21 : decode cX7_leftAtWorst 21 = .ok (.iload 8, 2) := by decide +kernel
theorem dX7_leftAtWorst_23 : decode cX7_leftAtWorst 23 = .ok (.ishr, 1) := by decide +kernel
theorem dX7_leftAtWorst_24 : decode cX7_leftAtWorst 24 = .ok (.iconst 1, 1) := by decide +kernel
theorem dX7_leftAtWorst_25 : decode cX7_leftAtWorst 25 = .ok (.iand, 1) := by decide +kernel
theorem dX7_leftAtWorst_26 : decode cX7_leftAtWorst 26 = .ok (.ifCond .eq 44, 3) := by decide +kernel
theorem dX7_leftAtWorst_29 : decode cX7_leftAtWorst 29 = .ok (.aload_n 0, 1) := by decide +kernel
theorem dX7_leftAtWorst_30 : decode cX7_leftAtWorst 30 = .ok (.iload_n 1, 1) := by decide +kernel
theorem dX7_leftAtWorst_31 : decode cX7_leftAtWorst 31 = .ok (.iload_n 2, 1) := by decide +kernel
theorem dX7_leftAtWorst_32 : decode cX7_leftAtWorst 32 = .ok (.iload_n 3, 1) := by decide +kernel
theorem dX7_leftAtWorst_33 : decode cX7_leftAtWorst 33 = .ok (.iload 8, 2) := by decide +kernel
theorem dX7_leftAtWorst_35 : decode cX7_leftAtWorst 35 = .ok (.invokevirtual 34, 3) := by decide +kernel
theorem dX7_leftAtWorst_38 : decode cX7_leftAtWorst 38 = .ok (.istore 9, 2) := by decide +kernel
theorem dX7_leftAtWorst_40 : decode cX7_leftAtWorst 40 = .ok (.iload 9, 2) := by decide +kernel
theorem dX7_leftAtWorst_42 : decode cX7_leftAtWorst 42 = .ok (.iload 7, 2) := by decide +kernel
theorem dX7_leftAtWorst_44 : decode cX7_leftAtWorst 44 = .ok (.if_icmp .ne 10, 3) := by decide +kernel
theorem dX7_leftAtWorst_47 : decode cX7_leftAtWorst 47 = .ok (.iload 6, 2) := by decide +kernel
theorem dX7_leftAtWorst_49 : decode cX7_leftAtWorst 49 = .ok (.iconst 1, 1) := by decide +kernel
theorem dX7_leftAtWorst_50 : decode cX7_leftAtWorst 50 = .ok (.iadd, 1) := by decide +kernel
theorem dX7_leftAtWorst_51 : decode cX7_leftAtWorst 51 = .ok (.goto 4, 3) := by decide +kernel
theorem dX7_leftAtWorst_54 : decode cX7_leftAtWorst 54 = .ok (.iconst 1, 1) := by decide +kernel
theorem dX7_leftAtWorst_55 : decode cX7_leftAtWorst 55 = .ok (.istore 6, 2) := by decide +kernel
theorem dX7_leftAtWorst_57 : decode cX7_leftAtWorst 57 = .ok (.iload 9, 2) := by decide +kernel
theorem dX7_leftAtWorst_59 : decode cX7_leftAtWorst 59 = .ok (.istore 7, 2) := by decide +kernel
theorem dX7_leftAtWorst_61 : decode cX7_leftAtWorst 61 = .ok (.iload 5, 2) := by decide +kernel
theorem dX7_leftAtWorst_63 : decode cX7_leftAtWorst 63 = .ok (.iload 6, 2) := by decide +kernel
theorem dX7_leftAtWorst_65 : decode cX7_leftAtWorst 65 = .ok (.invokestatic 52, 3) := by decide +kernel
theorem dX7_leftAtWorst_68 : decode cX7_leftAtWorst 68 = .ok (.istore 5, 2) := by decide +kernel
theorem dX7_leftAtWorst_70 : decode cX7_leftAtWorst 70 = .ok (.iinc 8 1, 3) := by decide +kernel
theorem dX7_leftAtWorst_73 : decode cX7_leftAtWorst 73 = .ok (.goto (-61), 3) := by decide +kernel
theorem dX7_leftAtWorst_76 : decode cX7_leftAtWorst 76 = .ok (.iload 5, 2) := by decide +kernel
theorem dX7_leftAtWorst_78 : decode cX7_leftAtWorst 78 = .ok (.ireturn, 1) := by decide +kernel
set_option maxRecDepth 20000 in
theorem ggX8_init_X2_init : GoodIn wsX8_init wsX2_init := goodIn_r _ [14, 15, 2, 3, 16, 17, 18, 19, 20, 21, 22, 23, 24, 25, 26, 27, 28, 29, 30, 31, 32, 33, 34, 35, 36, 37, 38, 39, 40, 41, 42, 43, 44, 45, 46, 47, 48, 49, 50, 51, 52, 53, 54, 55, 64, 65, 66, 67, 68, 69, 70, 71, 72, 73, 74, 75, 76, 77, 78, 79, 80, 81] (by decide +kernel) (by decide +kernel)
set_option maxRecDepth 20000 in
theorem gX8_init_X2_init_n23 : GoodIn wsX8_init (wsX2_init) := ggX8_init_X2_init
theorem dX8_init_0 : decode cX8_init 0 = .ok (.aload_n 0, 1) := by decide +kernel
theorem dX8_init_1 : decode cX8_init 1 = .ok (.invokespecial 3, 3) := by decide +kernel
theorem dX8_init_4 : decode cX8_init 4 = .ok (.aload_n 0, 1) := by decide +kernel
theorem dX8_init_5 : decode cX8_init 5 = .ok (.iconst 5, 1) := by decide +kernel
theorem dX8_init_6 : decode cX8_init 6 = .ok (.newarray .long, 2) := by decide +kernel
theorem dX8_init_8 : decode cX8_init 8 = .ok (.putfield 9, 3) := by decide +kernel
theorem dX8_init_11 : decode cX8_init 11 = .ok (.aload_n 0, 1) := by decide +kernel
theorem dX8_init_12 : decode cX8_init 12 = .ok (.iconst 5, 1) := by decide +kernel
theorem dX8_init_13 : decode cX8_init 13 = .ok (.newarray .long, 2) := by decide +kernel
theorem dX8_init_15 : decode cX8_init 15 = .ok (.putfield 15, 3) := by decide +kernel
theorem dX8_init_18 : decode cX8_init 18 = .ok (.aload_n 0, 1) := by decide +kernel
theorem dX8_init_19 : decode cX8_init 19 = .ok (.iconst 5, 1) := by decide +kernel
theorem dX8_init_20 : decode cX8_init 20 = .ok (.newarray .long, 2) := by decide +kernel
theorem dX8_init_22 : decode cX8_init 22 = .ok (.putfield 18, 3) := by decide +kernel
theorem dX8_init_25 : decode cX8_init 25 = .ok (.aload_n 0, 1) := by decide +kernel
theorem dX8_init_26 : decode cX8_init 26 = .ok (.new 21, 3) := by decide +kernel
theorem dX8_init_29 : decode cX8_init 29 = .ok (.dup, 1) := by decide +kernel
theorem dX8_init_30 : decode cX8_init 30 = .ok (.invokespecial 23, 3) := by decide +kernel
theorem dX8_init_33 : decode cX8_init 33 = .ok (.putfield 24, 3) := by decide +kernel
theorem dX8_init_36 : decode cX8_init 36 = .ok (.aload_n 0, 1) := by decide +kernel
theorem dX8_init_37 : decode cX8_init 37 = .ok (.lconst 1, 1) := by decide +kernel
theorem dX8_init_38 : decode cX8_init 38 = .ok (.putfield 28, 3) := by decide +kernel
theorem dX8_init_41 : decode cX8_init 41 = .ok (.return_, 1) := by decide +kernel
set_option maxRecDepth 20000 in
theorem ggX8_compare_X8_spread : GoodIn wsX8_compare wsX8_spread := goodIn_r _ [12, 13, 5, 14, 15, 16, 17, 18, 19, 20, 21, 22, 23, 24, 11, 25, 26, 27, 28, 29, 30, 31, 32, 33, 34, 35, 36, 37, 38, 39, 40, 41, 42, 43, 44, 66, 67, 68, 69, 70, 71, 72, 73, 48, 49, 50, 51, 52, 53, 54, 55, 56, 57, 58, 59, 60, 61, 62, 63, 64, 65] (by decide +kernel) (by decide +kernel)
set_option maxRecDepth 20000 in
theorem gX8_compare_X8_spread : GoodIn wsX8_compare (wsV RX8 36 RX8 yX8_spread wsX8_spread) := goodIn_app (goodIn_of _ (by decide +kernel)) ggX8_compare_X8_spread
set_option maxRecDepth 20000 in
theorem ggX8_compare_X8_commonDivisor : GoodIn wsX8_compare wsX8_commonDivisor := goodIn_r _ [47] (by decide +kernel) (by decide +kernel)
set_option maxRecDepth 20000 in
theorem gX8_compare_X8_commonDivisor : GoodIn wsX8_compare (va_wsS RX8 49 yX8_commonDivisor wsX8_commonDivisor) := goodIn_app (goodIn_of _ (by decide +kernel)) ggX8_compare_X8_commonDivisor
theorem dX8_compare_0 : decode cX8_compare 0 = .ok (.aload_n 0, 1) := by decide +kernel
theorem dX8_compare_1 : decode cX8_compare 1 = .ok (.aload_n 1, 1) := by decide +kernel
theorem dX8_compare_2 : decode cX8_compare 2 = .ok (.aload_n 1, 1) := by decide +kernel
theorem dX8_compare_3 : decode cX8_compare 3 = .ok (.getfield 32, 3) := by decide +kernel
theorem dX8_compare_6 : decode cX8_compare 6 = .ok (.iload_n 2, 1) := by decide +kernel
theorem dX8_compare_7 : decode cX8_compare 7 = .ok (.iaload, 1) := by decide +kernel
theorem dX8_compare_8 : decode cX8_compare 8 = .ok (.iload 4, 2) := by decide +kernel
theorem dX8_compare_10 : decode cX8_compare 10 = .ok (.aload_n 0, 1) := by decide +kernel
theorem dX8_compare_11 : decode cX8_compare 11 = .ok (.getfield 9, 3) := by decide +kernel
theorem dX8_compare_14 : decode cX8_compare 14 = .ok (.invokevirtual 36, 3) := by decide +kernel
theorem dX8_compare_17 : decode cX8_compare 17 = .ok (.aload_n 0, 1) := by decide +kernel
theorem dX8_compare_18 : decode cX8_compare 18 = .ok (.aload_n 1, 1) := by decide +kernel
theorem dX8_compare_19 : decode cX8_compare 19 = .ok (.aload_n 1, 1) := by decide +kernel
theorem dX8_compare_20 : decode cX8_compare 20 = .ok (.getfield 32, 3) := by decide +kernel
theorem dX8_compare_23 : decode cX8_compare 23 = .ok (.iload_n 3, 1) := by decide +kernel
theorem dX8_compare_24 : decode cX8_compare 24 = .ok (.iaload, 1) := by decide +kernel
theorem dX8_compare_25 : decode cX8_compare 25 = .ok (.iload 4, 2) := by decide +kernel
theorem dX8_compare_27 : decode cX8_compare 27 = .ok (.aload_n 0, 1) := by decide +kernel
theorem dX8_compare_28 : decode cX8_compare 28 = .ok (.getfield 15, 3) := by decide +kernel
theorem dX8_compare_31 : decode cX8_compare 31 = .ok (.invokevirtual 36, 3) := by decide +kernel
theorem dX8_compare_34 : decode cX8_compare 34 = .ok (.aload_n 0, 1) := by decide +kernel
theorem dX8_compare_35 : decode cX8_compare 35 = .ok (.lconst 0, 1) := by decide +kernel
theorem dX8_compare_36 : decode cX8_compare 36 = .ok (.putfield 40, 3) := by decide +kernel
theorem dX8_compare_39 : decode cX8_compare 39 = .ok (.iconst 0, 1) := by decide +kernel
theorem dX8_compare_40 : decode cX8_compare 40 = .ok (.istore 5, 2) := by decide +kernel
theorem dX8_compare_42 : decode cX8_compare 42 = .ok (.iload 5, 2) := by decide +kernel
theorem dX8_compare_44 : decode cX8_compare 44 = .ok (.aload_n 1, 1) := by decide +kernel
theorem dX8_compare_45 : decode cX8_compare 45 = .ok (.getfield 43, 3) := by decide +kernel
theorem dX8_compare_48 : decode cX8_compare 48 = .ok (.if_icmp .ge 33, 3) := by decide +kernel
theorem dX8_compare_51 : decode cX8_compare 51 = .ok (.aload_n 0, 1) := by decide +kernel
theorem dX8_compare_52 : decode cX8_compare 52 = .ok (.dup, 1) := by decide +kernel
theorem dX8_compare_53 : decode cX8_compare 53 = .ok (.getfield 40, 3) := by decide +kernel
theorem dX8_compare_56 : decode cX8_compare 56 = .ok (.aload_n 0, 1) := by decide +kernel
theorem dX8_compare_57 : decode cX8_compare 57 = .ok (.getfield 9, 3) := by decide +kernel
theorem dX8_compare_60 : decode cX8_compare 60 = .ok (.iload 5, 2) := by decide +kernel
theorem dX8_compare_62 : decode cX8_compare 62 = .ok (.laload, 1) := by decide +kernel
theorem dX8_compare_63 : decode cX8_compare 63 = .ok (.aload_n 0, 1) := by decide +kernel
theorem dX8_compare_64 : decode cX8_compare 64 = .ok (.getfield 15, 3) := by decide +kernel
theorem dX8_compare_67 : decode cX8_compare 67 = .ok (.iload 5, 2) := by decide +kernel
theorem dX8_compare_69 : decode cX8_compare 69 = .ok (.laload, 1) := by decide +kernel
theorem dX8_compare_70 : decode cX8_compare 70 = .ok (.lmul, 1) := by decide +kernel
theorem dX8_compare_71 : decode cX8_compare 71 = .ok (.ladd, 1) := by decide +kernel
theorem dX8_compare_72 : decode cX8_compare 72 = .ok (.putfield 40, 3) := by decide +kernel
theorem dX8_compare_75 : decode cX8_compare 75 = .ok (.iinc 5 1, 3) := by decide +kernel
theorem dX8_compare_78 : decode cX8_compare 78 = .ok (.goto (-36), 3) := by decide +kernel
theorem dX8_compare_81 : decode cX8_compare 81 = .ok (.aload_n 0, 1) := by decide +kernel
theorem dX8_compare_82 : decode cX8_compare 82 = .ok (.lconst 1, 1) := by decide +kernel
theorem dX8_compare_83 : decode cX8_compare 83 = .ok (.putfield 28, 3) := by decide +kernel
theorem dX8_compare_86 : decode cX8_compare 86 = .ok (.iconst 0, 1) := by decide +kernel
theorem dX8_compare_87 : decode cX8_compare 87 = .ok (.istore 5, 2) := by decide +kernel
theorem dX8_compare_89 : decode cX8_compare 89 = .ok (.iload 5, 2) := by decide +kernel
theorem dX8_compare_91 : decode cX8_compare 91 = .ok (.iload 4, 2) := by decide +kernel
theorem dX8_compare_93 : decode cX8_compare 93 = .ok (.if_icmp .ge 21, 3) := by decide +kernel
theorem dX8_compare_96 : decode cX8_compare 96 = .ok (.aload_n 0, 1) := by decide +kernel
theorem dX8_compare_97 : decode cX8_compare 97 = .ok (.dup, 1) := by decide +kernel
theorem dX8_compare_98 : decode cX8_compare 98 = .ok (.getfield 28, 3) := by decide +kernel
theorem dX8_compare_101 : decode cX8_compare 101 = .ok (.ldc2_w 47, 3) := by decide +kernel
theorem dX8_compare_104 : decode cX8_compare 104 = .ok (.lmul, 1) := by decide +kernel
theorem dX8_compare_105 : decode cX8_compare 105 = .ok (.putfield 28, 3) := by decide +kernel
theorem dX8_compare_108 : decode cX8_compare 108 = .ok (.iinc 5 1, 3) := by decide +kernel
theorem dX8_compare_111 : decode cX8_compare 111 = .ok (.goto (-22), 3) := by decide +kernel
theorem dX8_compare_114 : decode cX8_compare 114 = .ok (.aload_n 0, 1) := by decide +kernel
theorem dX8_compare_115 : decode cX8_compare 115 = .ok (.getfield 40, 3) := by decide +kernel
theorem dX8_compare_118 : decode cX8_compare 118 = .ok (.aload_n 0, 1) := by decide +kernel
theorem dX8_compare_119 : decode cX8_compare 119 = .ok (.getfield 28, 3) := by decide +kernel
theorem dX8_compare_122 : decode cX8_compare 122 = .ok (.invokestatic 49, 3) := by decide +kernel
theorem dX8_compare_125 : decode cX8_compare 125 = .ok (.lstore 5, 2) := by decide +kernel
theorem dX8_compare_127 : decode cX8_compare 127 = .ok (.lload 5, 2) := by decide +kernel
theorem dX8_compare_129 : decode cX8_compare 129 = .ok (.lconst 0, 1) := by decide +kernel
theorem dX8_compare_130 : decode cX8_compare 130 = .ok (.lcmp, 1) := by decide +kernel
theorem dX8_compare_131 : decode cX8_compare 131 = .ok (.ifCond .le 25, 3) := by decide +kernel
theorem dX8_compare_134 : decode cX8_compare 134 = .ok (.aload_n 0, 1) := by decide +kernel
theorem dX8_compare_135 : decode cX8_compare 135 = .ok (.dup, 1) := by decide +kernel
theorem dX8_compare_136 : decode cX8_compare 136 = .ok (.getfield 40, 3) := by decide +kernel
theorem dX8_compare_139 : decode cX8_compare 139 = .ok (.lload 5, 2) := by decide +kernel
theorem dX8_compare_141 : decode cX8_compare 141 = .ok (.ldiv, 1) := by decide +kernel
theorem dX8_compare_142 : decode cX8_compare 142 = .ok (.putfield 40, 3) := by decide +kernel
theorem dX8_compare_145 : decode cX8_compare 145 = .ok (.aload_n 0, 1) := by decide +kernel
theorem dX8_compare_146 : decode cX8_compare 146 = .ok (.dup, 1) := by decide +kernel
theorem dX8_compare_147 : decode cX8_compare 147 = .ok (.getfield 28, 3) := by decide +kernel
theorem dX8_compare_150 : decode cX8_compare 150 = .ok (.lload 5, 2) := by decide +kernel
theorem dX8_compare_152 : decode cX8_compare 152 = .ok (.ldiv, 1) := by decide +kernel
theorem dX8_compare_153 : decode cX8_compare 153 = .ok (.putfield 28, 3) := by decide +kernel
theorem dX8_compare_156 : decode cX8_compare 156 = .ok (.return_, 1) := by decide +kernel
set_option maxRecDepth 20000 in
theorem ggX8_spread_J7_fill_d0a16 : GoodIn wsX8_spread wsJ7_fill_d0a16 := goodIn_r _ [10] (by decide +kernel) (by decide +kernel)
set_option maxRecDepth 20000 in
theorem gX8_spread_J7_fill_d0a16 : GoodIn wsX8_spread (va_wsS RX8 53 yJ7_fill_d0a16 wsJ7_fill_d0a16) := goodIn_app (goodIn_of _ (by decide +kernel)) ggX8_spread_J7_fill_d0a16
set_option maxRecDepth 20000 in
theorem ggX8_spread_X8_shareOut : GoodIn wsX8_spread wsX8_shareOut := goodIn_r _ [15, 1, 16, 17, 18, 19, 20, 21, 22, 23, 24, 25, 26, 27, 28, 29, 30, 31, 32, 33, 34, 35, 36, 37, 38, 39, 40, 41, 42, 43, 44, 45, 46, 47, 48, 49, 50, 51, 52, 53, 54, 55, 56, 57, 58, 59, 60] (by decide +kernel) (by decide +kernel)
set_option maxRecDepth 20000 in
theorem gX8_spread_X8_shareOut : GoodIn wsX8_spread (wsV RX8 59 RX8 yX8_shareOut wsX8_shareOut) := goodIn_app (goodIn_of _ (by decide +kernel)) ggX8_spread_X8_shareOut
theorem dX8_spread_0 : decode cX8_spread 0 = .ok (.aload 4, 2) := by decide +kernel
theorem dX8_spread_2 : decode cX8_spread 2 = .ok (.lconst 0, 1) := by decide +kernel
theorem dX8_spread_3 : decode cX8_spread 3 = .ok (.invokestatic 53, 3) := by decide +kernel
theorem dX8_spread_6 : decode cX8_spread 6 = .ok (.aload 4, 2) := by decide +kernel
theorem dX8_spread_8 : decode cX8_spread 8 = .ok (.iload_n 2, 1) := by decide +kernel
theorem dX8_spread_9 : decode cX8_spread 9 = .ok (.lconst 1, 1) := by decide +kernel
theorem dX8_spread_10 : decode cX8_spread 10 = .ok (.lastore, 1) := by decide +kernel
theorem dX8_spread_11 : decode cX8_spread 11 = .ok (.iconst 0, 1) := by decide +kernel
theorem dX8_spread_12 : decode cX8_spread 12 = .ok (.istore 5, 2) := by decide +kernel
theorem dX8_spread_14 : decode cX8_spread 14 = .ok (.iload 5, 2) := by decide +kernel
theorem dX8_spread_16 : decode cX8_spread 16 = .ok (.iload_n 3, 1) := by decide +kernel
theorem dX8_spread_17 : decode cX8_spread 17 = .ok (.if_icmp .ge 59, 3) := by decide +kernel
theorem dX8_spread_20 : decode cX8_spread 20 = .ok (.aload_n 0, 1) := by decide +kernel
theorem dX8_spread_21 : decode cX8_spread 21 = .ok (.getfield 18, 3) := by decide +kernel
theorem dX8_spread_24 : decode cX8_spread 24 = .ok (.lconst 0, 1) := by decide +kernel
theorem dX8_spread_25 : decode cX8_spread 25 = .ok (.invokestatic 53, 3) := by decide +kernel
theorem dX8_spread_28 : decode cX8_spread 28 = .ok (.iconst 0, 1) := by decide +kernel
theorem dX8_spread_29 : decode cX8_spread 29 = .ok (.istore 6, 2) := by decide +kernel
theorem dX8_spread_31 : decode cX8_spread 31 = .ok (.iload 6, 2) := by decide +kernel
theorem dX8_spread_33 : decode cX8_spread 33 = .ok (.aload_n 1, 1) := by decide +kernel
theorem dX8_spread_34 : decode cX8_spread 34 = .ok (.getfield 43, 3) := by decide +kernel
theorem dX8_spread_37 : decode cX8_spread 37 = .ok (.if_icmp .ge 21, 3) := by decide +kernel
theorem dX8_spread_40 : decode cX8_spread 40 = .ok (.aload_n 0, 1) := by decide +kernel
theorem dX8_spread_41 : decode cX8_spread 41 = .ok (.aload_n 1, 1) := by decide +kernel
theorem dX8_spread_42 : decode cX8_spread 42 = .ok (.iload 6, 2) := by decide +kernel
theorem dX8_spread_44 : decode cX8_spread 44 = .ok (.aload 4, 2) := by decide +kernel
theorem dX8_spread_46 : decode cX8_spread 46 = .ok (.iload 6, 2) := by decide +kernel
theorem dX8_spread_48 : decode cX8_spread 48 = .ok (.laload, 1) := by decide +kernel
theorem dX8_spread_49 : decode cX8_spread 49 = .ok (.invokevirtual 59, 3) := by decide +kernel
theorem dX8_spread_52 : decode cX8_spread 52 = .ok (.iinc 6 1, 3) := by decide +kernel
theorem dX8_spread_55 : decode cX8_spread 55 = .ok (.goto (-24), 3) := by decide +kernel
theorem dX8_spread_58 : decode cX8_spread 58 = .ok (.aload_n 0, 1) := by decide +kernel
theorem dX8_spread_59 : decode cX8_spread 59 = .ok (.getfield 18, 3) := by decide +kernel
theorem dX8_spread_62 : decode cX8_spread 62 = .ok (.iconst 0, 1) := by decide +kernel
theorem dX8_spread_63 : decode cX8_spread 63 = .ok (.aload 4, 2) := by decide +kernel
theorem dX8_spread_65 : decode cX8_spread 65 = .ok (.iconst 0, 1) := by decide +kernel
theorem dX8_spread_66 : decode cX8_spread 66 = .ok (.iconst 5, 1) := by decide +kernel
theorem dX8_spread_67 : decode cX8_spread 67 = .ok (.invokestatic 63, 3) := by decide +kernel
theorem dX8_spread_70 : decode cX8_spread 70 = .ok (.iinc 5 1, 3) := by decide +kernel
theorem dX8_spread_73 : decode cX8_spread 73 = .ok (.goto (-59), 3) := by decide +kernel
theorem dX8_spread_76 : decode cX8_spread 76 = .ok (.return_, 1) := by decide +kernel
set_option maxRecDepth 20000 in
theorem ggX8_shareOut_X2_doorsOf : GoodIn wsX8_shareOut wsX2_doorsOf := goodIn_r _ [8, 9, 10, 11, 12, 7, 13, 14, 15, 29, 30, 31, 32, 33, 34, 35, 36, 37, 38, 39, 40, 41, 42, 43, 44, 45, 46] (by decide +kernel) (by decide +kernel)
set_option maxRecDepth 20000 in
theorem gX8_shareOut_X2_doorsOf : GoodIn wsX8_shareOut (wsV RX8 69 RX2 yX2_doorsOf wsX2_doorsOf) := goodIn_app (goodIn_of _ (by decide +kernel)) ggX8_shareOut_X2_doorsOf
set_option maxRecDepth 20000 in
theorem ggX8_shareOut_X2_endsAt : GoodIn wsX8_shareOut wsX2_endsAt := goodIn_r _ [13, 14, 15, 29, 30, 31, 32, 33, 34, 35, 36, 37, 38, 39, 40, 41, 42, 43, 44, 45, 46] (by decide +kernel) (by decide +kernel)
set_option maxRecDepth 20000 in
theorem gX8_shareOut_X2_endsAt : GoodIn wsX8_shareOut (wsV RX8 78 RX2 yX2_endsAt wsX2_endsAt) := goodIn_app (goodIn_of _ (by decide +kernel)) ggX8_shareOut_X2_endsAt
set_option maxRecDepth 20000 in
theorem ggX8_shareOut_X2_across : GoodIn wsX8_shareOut wsX2_across := goodIn_r _ [20, 14, 15, 29, 30, 31, 32, 33, 34, 35, 36, 37, 38, 39, 40, 41, 42, 43, 44, 45, 46] (by decide +kernel) (by decide +kernel)
set_option maxRecDepth 20000 in
theorem gX8_shareOut_X2_across : GoodIn wsX8_shareOut (wsV RX8 82 RX2 yX2_across wsX2_across) := goodIn_app (goodIn_of _ (by decide +kernel)) ggX8_shareOut_X2_across
theorem dX8_shareOut_0 : decode cX8_shareOut 0 = .ok (.aload_n 1, 1) := by decide +kernel
theorem dX8_shareOut_1 : decode cX8_shareOut 1 = .ok (.iload_n 2, 1) := by decide +kernel
theorem dX8_shareOut_2 : decode cX8_shareOut 2 = .ok (.invokevirtual 69, 3) := by decide +kernel
theorem dX8_shareOut_5 : decode cX8_shareOut 5 = .ok (.istore 5, 2) := by decide +kernel
theorem dX8_shareOut_7 : decode cX8_shareOut 7 = .ok (.iload 5, 2) := by decide +kernel
theorem dX8_shareOut_9 : decode cX8_shareOut 9 = .ok (.ifCond .gt 18, 3) := by decide +kernel
theorem dX8_shareOut_12 : decode cX8_shareOut 12 = .ok (.aload_n 0, 1) := by decide +kernel
theorem dX8_shareOut_13 : decode cX8_shareOut 13 = .ok (.getfield 18, 3) := by decide +kernel
theorem dX8_shareOut_16 : decode cX8_shareOut 16 = .ok (.iload_n 2, 1) := by decide +kernel
theorem dX8_shareOut_17 : decode cX8_shareOut 17 = .ok (.dup2, 1) := by decide +kernel
theorem dX8_shareOut_18 : decode cX8_shareOut 18 = .ok (.laload, 1) := by decide +kernel
theorem dX8_shareOut_19 : decode cX8_shareOut 19 = .ok (.lload_n 3, 1) := by decide +kernel
theorem dX8_shareOut_20 : decode cX8_shareOut 20 = .ok (.ldc2_w 73, 3) := by decide +kernel
theorem dX8_shareOut_23 : decode cX8_shareOut 23 = .ok (.lmul, 1) := by decide +kernel
theorem dX8_shareOut_24 : decode cX8_shareOut 24 = .ok (.ladd, 1) := by decide +kernel
theorem dX8_shareOut_25 : decode cX8_shareOut 25 = .ok (.lastore, 1) := by decide +kernel
theorem dX8_shareOut_26 : decode cX8_shareOut 26 = .ok (.return_, 1) := by decide +kernel
theorem dX8_shareOut_27 : decode cX8_shareOut 27 = .ok (.lload_n 3, 1) := by decide +kernel
theorem dX8_shareOut_28 : decode cX8_shareOut 28 = .ok (.ldc2_w 73, 3) := by decide +kernel
theorem dX8_shareOut_31 : decode cX8_shareOut 31 = .ok (.iload 5, 2) := by decide +kernel
theorem dX8_shareOut_33 : decode cX8_shareOut 33 = .ok (.i2l, 1) := by decide +kernel
theorem dX8_shareOut_34 : decode cX8_shareOut 34 = .ok (.ldiv, 1) := by decide +kernel
theorem dX8_shareOut_35 : decode cX8_shareOut 35 = .ok (.lmul, 1) := by decide +kernel
theorem dX8_shareOut_36 : decode cX8_shareOut 36 = .ok (.lstore 6, 2) := by decide +kernel
theorem dX8_shareOut_38 : decode cX8_shareOut 38 = .ok (.iconst 0, 1) := by decide +kernel
theorem dX8_shareOut_39 : decode cX8_shareOut 39 = .ok (.istore 8, 2) := by decide +kernel
theorem dX8_shareOut_41 : decode cX8_shareOut 41 = .ok (.iload 8, 2) := by decide +kernel
theorem dX8_shareOut_43 : decode cX8_shareOut 43 = .ok (.aload_n 1, 1) := by decide +kernel
theorem dX8_shareOut_44 : decode cX8_shareOut 44 = .ok (.getfield 75, 3) := by decide +kernel
theorem dX8_shareOut_47 : decode cX8_shareOut 47 = .ok (.if_icmp .ge 36, 3) := by decide +kernel
theorem dX8_shareOut_50 : decode cX8_shareOut 50 = .ok (.aload_n 1, 1) := by decide +kernel
theorem dX8_shareOut_51 : decode cX8_shareOut 51 = .ok (.iload 8, 2) := by decide +kernel
theorem dX8_shareOut_53 : decode cX8_shareOut 53 = .ok (.iload_n 2, 1) := by decide +kernel
theorem dX8_shareOut_54 : decode cX8_shareOut 54 = .ok (.invokevirtual 78, 3) := by decide +kernel
theorem dX8_shareOut_57 : decode cX8_shareOut 57 = .ok (.ifCond .eq 20, 3) := by decide +kernel
theorem dX8_shareOut_60 : decode cX8_shareOut 60 = .ok (.aload_n 0, 1) := by decide +kernel
theorem dX8_shareOut_61 : decode cX8_shareOut 61 = .ok (.getfield 18, 3) := by decide +kernel
theorem dX8_shareOut_64 : decode cX8_shareOut 64 = .ok (.aload_n 1, 1) := by decide +kernel
theorem dX8_shareOut_65 : decode cX8_shareOut 65 = .ok (.iload 8, 2) := by decide +kernel
theorem dX8_shareOut_67 : decode cX8_shareOut 67 = .ok (.iload_n 2, 1) := by decide +kernel
theorem dX8_shareOut_68 : decode cX8_shareOut 68 = .ok (.invokevirtual 82, 3) := by decide +kernel
theorem dX8_shareOut_71 : decode cX8_shareOut 71 = .ok (.dup2, 1) := by decide +kernel
theorem dX8_shareOut_72 : decode cX8_shareOut 72 = .ok (.laload, 1) := by decide +kernel
theorem dX8_shareOut_73 : decode cX8_shareOut 73 = .ok (.lload 6, 2) := by decide +kernel
theorem dX8_shareOut_75 : decode cX8_shareOut 75 = .ok (.ladd, 1) := by decide +kernel
theorem dX8_shareOut_76 : decode cX8_shareOut 76 = .ok (.lastore, 1) := by decide +kernel
theorem dX8_shareOut_77 : decode cX8_shareOut 77 = .ok (.iinc 8 1, 3) := by decide +kernel
theorem dX8_shareOut_80 : decode cX8_shareOut 80 = .ok (.goto (-39), 3) := by decide +kernel
theorem dX8_shareOut_83 : decode cX8_shareOut 83 = .ok (.return_, 1) := by decide +kernel
theorem dX8_commonDivisor_0 : decode cX8_commonDivisor 0 = .ok (.lload_n 0, 1) := by decide +kernel
theorem dX8_commonDivisor_1 : decode cX8_commonDivisor 1 = .ok (.lstore 4, 2) := by decide +kernel
theorem dX8_commonDivisor_3 : decode cX8_commonDivisor 3 = .ok (.lload_n 2, 1) := by decide +kernel
theorem dX8_commonDivisor_4 : decode cX8_commonDivisor 4 = .ok (.lstore 6, 2) := by decide +kernel
theorem dX8_commonDivisor_6 : decode cX8_commonDivisor 6 = .ok (.iconst 0, 1) := by decide +kernel
theorem dX8_commonDivisor_7 : decode cX8_commonDivisor 7 = .ok (.istore 8, 2) := by decide +kernel
theorem dX8_commonDivisor_9 : decode cX8_commonDivisor 9 = .ok (.iload 8, 2) := by decide +kernel
theorem dX8_commonDivisor_11 : decode cX8_commonDivisor 11 = .ok (.sipush 200, 3) := by decide +kernel
theorem dX8_commonDivisor_14 : decode cX8_commonDivisor 14 = .ok (.if_icmp .ge 31, 3) := by decide +kernel
theorem dX8_commonDivisor_17 : decode cX8_commonDivisor 17 = .ok (.lload 6, 2) := by decide +kernel
theorem dX8_commonDivisor_19 : decode cX8_commonDivisor 19 = .ok (.lconst 0, 1) := by decide +kernel
theorem dX8_commonDivisor_20 : decode cX8_commonDivisor 20 = .ok (.lcmp, 1) := by decide +kernel
theorem dX8_commonDivisor_21 : decode cX8_commonDivisor 21 = .ok (.ifCond .eq 24, 3) := by decide +kernel
theorem dX8_commonDivisor_24 : decode cX8_commonDivisor 24 = .ok (.lload 4, 2) := by decide +kernel
theorem dX8_commonDivisor_26 : decode cX8_commonDivisor 26 = .ok (.lload 6, 2) := by decide +kernel
theorem dX8_commonDivisor_28 : decode cX8_commonDivisor 28 = .ok (.lrem, 1) := by decide +kernel
theorem dX8_commonDivisor_29 : decode cX8_commonDivisor 29 = .ok (.lstore 9, 2) := by decide +kernel
theorem dX8_commonDivisor_31 : decode cX8_commonDivisor 31 = .ok (.lload 6, 2) := by decide +kernel
theorem dX8_commonDivisor_33 : decode cX8_commonDivisor 33 = .ok (.lstore 4, 2) := by decide +kernel
theorem dX8_commonDivisor_35 : decode cX8_commonDivisor 35 = .ok (.lload 9, 2) := by decide +kernel
theorem dX8_commonDivisor_37 : decode cX8_commonDivisor 37 = .ok (.lstore 6, 2) := by decide +kernel
theorem dX8_commonDivisor_39 : decode cX8_commonDivisor 39 = .ok (.iinc 8 1, 3) := by decide +kernel
theorem dX8_commonDivisor_42 : decode cX8_commonDivisor 42 = .ok (.goto (-33), 3) := by decide +kernel
theorem dX8_commonDivisor_45 : decode cX8_commonDivisor 45 = .ok (.lload 4, 2) := by decide +kernel
theorem dX8_commonDivisor_47 : decode cX8_commonDivisor 47 = .ok (.lreturn, 1) := by decide +kernel
set_option maxRecDepth 20000 in
theorem ggX8_dream_X2_copyFrom : GoodIn wsX8_dream wsX2_copyFrom := goodIn_r _ [8, 9, 10, 11, 12, 13, 14, 15, 16, 17, 18, 19, 20, 21, 22, 23, 24, 25, 26, 27, 28, 29, 118, 119, 120, 121, 122, 123, 124, 125, 126, 127, 128, 129, 130, 131, 132, 133, 134, 135] (by decide +kernel) (by decide +kernel)
set_option maxRecDepth 20000 in
theorem gX8_dream_X2_copyFrom : GoodIn wsX8_dream (wsV RX8 86 RX2 yX2_copyFrom wsX2_copyFrom) := goodIn_app (goodIn_of _ (by decide +kernel)) ggX8_dream_X2_copyFrom
set_option maxRecDepth 20000 in
theorem ggX8_dream_X8_dreamOfOne : GoodIn wsX8_dream wsX8_dreamOfOne := goodIn_r _ [34, 1, 35, 36, 3, 37, 38, 39, 40, 33, 41, 42, 2, 43, 44, 45, 46, 47, 48, 7, 49, 10, 50, 51, 52, 53, 14, 19, 54, 55, 56, 57, 58, 59, 60, 61, 24, 25, 12, 62, 63, 64, 65, 23, 66, 67, 68, 69, 20, 22, 70, 71, 72, 73, 74, 21, 75, 76, 77, 78, 79, 80, 81, 82, 83, 84, 85, 86, 87, 88, 89, 90, 91, 92, 93, 94, 95, 96, 97, 98, 99, 100, 101, 102, 103, 104, 105, 106, 107, 108, 109, 110, 111, 112, 113, 114, 115, 116, 117, 118, 119, 120, 121, 122, 123, 124, 125, 126, 127, 128, 129, 130, 131, 132, 133, 134, 135] (by decide +kernel) (by decide +kernel)
set_option maxRecDepth 20000 in
theorem gX8_dream_X8_dreamOfOne : GoodIn wsX8_dream (wsV RX8 96 RX8 yX8_dreamOfOne wsX8_dreamOfOne) := goodIn_app (goodIn_of _ (by decide +kernel)) ggX8_dream_X8_dreamOfOne
theorem dX8_dream_0 : decode cX8_dream 0 = .ok (.aload_n 0, 1) := by decide +kernel
theorem dX8_dream_1 : decode cX8_dream 1 = .ok (.getfield 24, 3) := by decide +kernel
theorem dX8_dream_4 : decode cX8_dream 4 = .ok (.aload_n 1, 1) := by decide +kernel
theorem dX8_dream_5 : decode cX8_dream 5 = .ok (.invokevirtual 86, 3) := by decide +kernel
theorem dX8_dream_8 : decode cX8_dream 8 = .ok (.aload_n 0, 1) := by decide +kernel
theorem dX8_dream_9 : decode cX8_dream 9 = .ok (.iload_n 3, 1) := by decide +kernel
theorem dX8_dream_10 : decode cX8_dream 10 = .ok (.putfield 90, 3) := by decide +kernel
theorem dX8_dream_13 : decode cX8_dream 13 = .ok (.aload_n 0, 1) := by decide +kernel
theorem dX8_dream_14 : decode cX8_dream 14 = .ok (.iconst 0, 1) := by decide +kernel
theorem dX8_dream_15 : decode cX8_dream 15 = .ok (.putfield 93, 3) := by decide +kernel
theorem dX8_dream_18 : decode cX8_dream 18 = .ok (.iconst 0, 1) := by decide +kernel
theorem dX8_dream_19 : decode cX8_dream 19 = .ok (.istore 4, 2) := by decide +kernel
theorem dX8_dream_21 : decode cX8_dream 21 = .ok (.iload 4, 2) := by decide +kernel
theorem dX8_dream_23 : decode cX8_dream 23 = .ok (.iload_n 2, 1) := by decide +kernel
theorem dX8_dream_24 : decode cX8_dream 24 = .ok (.if_icmp .ge 13, 3) := by decide +kernel
theorem dX8_dream_27 : decode cX8_dream 27 = .ok (.aload_n 0, 1) := by decide +kernel
theorem dX8_dream_28 : decode cX8_dream 28 = .ok (.invokevirtual 96, 3) := by decide +kernel
theorem dX8_dream_31 : decode cX8_dream 31 = .ok (.iinc 4 1, 3) := by decide +kernel
theorem dX8_dream_34 : decode cX8_dream 34 = .ok (.goto (-13), 3) := by decide +kernel
theorem dX8_dream_37 : decode cX8_dream 37 = .ok (.return_, 1) := by decide +kernel
set_option maxRecDepth 20000 in
theorem ggX8_dreamOfOne_X8_draw : GoodIn wsX8_dreamOfOne wsX8_draw := goodIn_r _ [10, 11, 12, 13, 14, 15, 91, 92, 93, 94, 95, 96, 97, 98] (by decide +kernel) (by decide +kernel)
set_option maxRecDepth 20000 in
theorem gX8_dreamOfOne_X8_draw : GoodIn wsX8_dreamOfOne (wsV RX8 102 RX8 yX8_draw wsX8_draw) := goodIn_app (goodIn_of _ (by decide +kernel)) ggX8_dreamOfOne_X8_draw
set_option maxRecDepth 20000 in
theorem ggX8_dreamOfOne_X2_doorsOf : GoodIn wsX8_dreamOfOne wsX2_doorsOf := goodIn_r _ [20, 21, 22, 23, 24, 19, 25, 26, 27, 99, 100, 101, 102, 103, 104, 105, 106, 107, 108, 109, 110, 111, 112, 113, 114, 115, 116] (by decide +kernel) (by decide +kernel)
set_option maxRecDepth 20000 in
theorem gX8_dreamOfOne_X2_doorsOf : GoodIn wsX8_dreamOfOne (wsV RX8 69 RX2 yX2_doorsOf wsX2_doorsOf) := goodIn_app (goodIn_of _ (by decide +kernel)) ggX8_dreamOfOne_X2_doorsOf
set_option maxRecDepth 20000 in
theorem ggX8_dreamOfOne_X2_doorOf : GoodIn wsX8_dreamOfOne wsX2_doorOf := goodIn_r _ [31, 21, 22, 23, 24, 19, 25, 26, 27, 99, 100, 101, 102, 103, 104, 105, 106, 107, 108, 109, 110, 111, 112, 113, 114, 115, 116] (by decide +kernel) (by decide +kernel)
set_option maxRecDepth 20000 in
theorem gX8_dreamOfOne_X2_doorOf : GoodIn wsX8_dreamOfOne (wsV RX8 105 RX2 yX2_doorOf wsX2_doorOf) := goodIn_app (goodIn_of _ (by decide +kernel)) ggX8_dreamOfOne_X2_doorOf
set_option maxRecDepth 20000 in
theorem ggX8_dreamOfOne_X2_walk : GoodIn wsX8_dreamOfOne wsX2_walk := goodIn_r _ [35, 36, 37, 38, 39, 40, 41, 19, 42, 43, 44, 45, 46, 47, 48, 49, 50, 51, 52, 53, 54, 55, 56, 57, 58, 59, 60, 61, 62, 63, 64, 65, 66, 67, 68, 69, 70, 71, 72, 73, 74, 75, 76, 77, 78, 79, 80, 81, 82, 83, 84, 85, 86, 87, 88, 89, 90, 26, 27, 99, 100, 101, 102, 103, 104, 105, 106, 107, 108, 109, 110, 111, 112, 113, 114, 115, 116] (by decide +kernel) (by decide +kernel)
set_option maxRecDepth 20000 in
theorem gX8_dreamOfOne_X2_walk : GoodIn wsX8_dreamOfOne (wsV RX8 108 RX2 yX2_walk wsX2_walk) := goodIn_app (goodIn_of _ (by decide +kernel)) ggX8_dreamOfOne_X2_walk
theorem dX8_dreamOfOne_0 : decode cX8_dreamOfOne 0 = .ok (.aload_n 0, 1) := by decide +kernel
theorem dX8_dreamOfOne_1 : decode cX8_dreamOfOne 1 = .ok (.aload_n 0, 1) := by decide +kernel
theorem dX8_dreamOfOne_2 : decode cX8_dreamOfOne 2 = .ok (.getfield 24, 3) := by decide +kernel
theorem dX8_dreamOfOne_5 : decode cX8_dreamOfOne 5 = .ok (.getfield 99, 3) := by decide +kernel
theorem dX8_dreamOfOne_8 : decode cX8_dreamOfOne 8 = .ok (.invokevirtual 102, 3) := by decide +kernel
theorem dX8_dreamOfOne_11 : decode cX8_dreamOfOne 11 = .ok (.istore_n 1, 1) := by decide +kernel
theorem dX8_dreamOfOne_12 : decode cX8_dreamOfOne 12 = .ok (.aload_n 0, 1) := by decide +kernel
theorem dX8_dreamOfOne_13 : decode cX8_dreamOfOne 13 = .ok (.getfield 24, 3) := by decide +kernel
theorem dX8_dreamOfOne_16 : decode cX8_dreamOfOne 16 = .ok (.getfield 32, 3) := by decide +kernel
theorem dX8_dreamOfOne_19 : decode cX8_dreamOfOne 19 = .ok (.iload_n 1, 1) := by decide +kernel
theorem dX8_dreamOfOne_20 : decode cX8_dreamOfOne 20 = .ok (.iaload, 1) := by decide +kernel
theorem dX8_dreamOfOne_21 : decode cX8_dreamOfOne 21 = .ok (.istore_n 2, 1) := by decide +kernel
theorem dX8_dreamOfOne_22 : decode cX8_dreamOfOne 22 = .ok (.aload_n 0, 1) := by decide +kernel
theorem dX8_dreamOfOne_23 : decode cX8_dreamOfOne 23 = .ok (.getfield 24, 3) := by decide +kernel
theorem dX8_dreamOfOne_26 : decode cX8_dreamOfOne 26 = .ok (.iload_n 2, 1) := by decide +kernel
theorem dX8_dreamOfOne_27 : decode cX8_dreamOfOne 27 = .ok (.invokevirtual 69, 3) := by decide +kernel
theorem dX8_dreamOfOne_30 : decode cX8_dreamOfOne 30 = .ok (.istore_n 3, 1) := by decide +kernel
theorem dX8_dreamOfOne_31 : decode cX8_dreamOfOne 31 = .ok (.iload_n 3, 1) := by decide +kernel
theorem dX8_dreamOfOne_32 : decode cX8_dreamOfOne 32 = .ok (.ifCond .le 44, 3) := by decide +kernel
theorem dX8_dreamOfOne_35 : decode cX8_dreamOfOne 35 = .ok (.aload_n 0, 1) := by decide +kernel
theorem dX8_dreamOfOne_36 : decode cX8_dreamOfOne 36 = .ok (.getfield 24, 3) := by decide +kernel
theorem dX8_dreamOfOne_39 : decode cX8_dreamOfOne 39 = .ok (.iload_n 2, 1) := by decide +kernel
theorem dX8_dreamOfOne_40 : decode cX8_dreamOfOne 40 = .ok (.aload_n 0, 1) := by decide +kernel
theorem dX8_dreamOfOne_41 : decode cX8_dreamOfOne 41 = .ok (.iload_n 3, 1) := by decide +kernel
theorem dX8_dreamOfOne_42 : decode cX8_dreamOfOne 42 = .ok (.invokevirtual 102, 3) := by decide +kernel
theorem dX8_dreamOfOne_45 : decode cX8_dreamOfOne 45 = .ok (.invokevirtual 105, 3) := by decide +kernel
theorem dX8_dreamOfOne_48 : decode cX8_dreamOfOne 48 = .ok (.istore 4, 2) := by decide +kernel
theorem dX8_dreamOfOne_50 : decode cX8_dreamOfOne 50 = .ok (.iload 4, 2) := by decide +kernel
theorem dX8_dreamOfOne_52 : decode cX8_dreamOfOne 52 = .ok (.iconst (-1), 1) := by decide +kernel
theorem dX8_dreamOfOne_53 : decode cX8_dreamOfOne 53 = .ok (.if_icmp .eq 23, 3) := by decide +kernel
theorem dX8_dreamOfOne_56 : decode cX8_dreamOfOne 56 = .ok (.aload_n 0, 1) := by decide +kernel
theorem dX8_dreamOfOne_57 : decode cX8_dreamOfOne 57 = .ok (.dup, 1) := by decide +kernel
theorem dX8_dreamOfOne_58 : decode cX8_dreamOfOne 58 = .ok (.getfield 93, 3) := by decide +kernel
theorem dX8_dreamOfOne_61 : decode cX8_dreamOfOne 61 = .ok (.aload_n 0, 1) := by decide +kernel
theorem dX8_dreamOfOne_62 : decode cX8_dreamOfOne 62 = .ok (.getfield 24, 3) := by decide +kernel
theorem dX8_dreamOfOne_65 : decode cX8_dreamOfOne 65 = .ok (.iload_n 1, 1) := by decide +kernel
theorem dX8_dreamOfOne_66 : decode cX8_dreamOfOne 66 = .ok (.iload 4, 2) := by decide +kernel
theorem dX8_dreamOfOne_68 : decode cX8_dreamOfOne 68 = .ok (.iconst (-1), 1) := by decide +kernel
theorem dX8_dreamOfOne_69 : decode cX8_dreamOfOne 69 = .ok (.invokevirtual 108, 3) := by decide +kernel
theorem dX8_dreamOfOne_72 : decode cX8_dreamOfOne 72 = .ok (.iadd, 1) := by decide +kernel
theorem dX8_dreamOfOne_73 : decode cX8_dreamOfOne 73 = .ok (.putfield 93, 3) := by decide +kernel
theorem dX8_dreamOfOne_76 : decode cX8_dreamOfOne 76 = .ok (.aload_n 0, 1) := by decide +kernel
theorem dX8_dreamOfOne_77 : decode cX8_dreamOfOne 77 = .ok (.iconst 4, 1) := by decide +kernel
theorem dX8_dreamOfOne_78 : decode cX8_dreamOfOne 78 = .ok (.invokevirtual 102, 3) := by decide +kernel
theorem dX8_dreamOfOne_81 : decode cX8_dreamOfOne 81 = .ok (.ifCond .ne 30, 3) := by decide +kernel
theorem dX8_dreamOfOne_84 : decode cX8_dreamOfOne 84 = .ok (.aload_n 0, 1) := by decide +kernel
theorem dX8_dreamOfOne_85 : decode cX8_dreamOfOne 85 = .ok (.getfield 24, 3) := by decide +kernel
theorem dX8_dreamOfOne_88 : decode cX8_dreamOfOne 88 = .ok (.getfield 112, 3) := by decide +kernel
theorem dX8_dreamOfOne_91 : decode cX8_dreamOfOne 91 = .ok (.iload_n 1, 1) := by decide +kernel
theorem dX8_dreamOfOne_92 : decode cX8_dreamOfOne 92 = .ok (.iaload, 1) := by decide +kernel
theorem dX8_dreamOfOne_93 : decode cX8_dreamOfOne 93 = .ok (.bipush 9, 2) := by decide +kernel
theorem dX8_dreamOfOne_95 : decode cX8_dreamOfOne 95 = .ok (.if_icmp .ge 16, 3) := by decide +kernel
theorem dX8_dreamOfOne_98 : decode cX8_dreamOfOne 98 = .ok (.aload_n 0, 1) := by decide +kernel
theorem dX8_dreamOfOne_99 : decode cX8_dreamOfOne 99 = .ok (.getfield 24, 3) := by decide +kernel
theorem dX8_dreamOfOne_102 : decode cX8_dreamOfOne 102 = .ok (.getfield 112, 3) := by decide +kernel
theorem dX8_dreamOfOne_105 : decode cX8_dreamOfOne 105 = .ok (.iload_n 1, 1) := by decide +kernel
theorem dX8_dreamOfOne_106 : decode cX8_dreamOfOne 106 = .ok (.dup2, 1) := by decide +kernel
theorem dX8_dreamOfOne_107 : decode cX8_dreamOfOne 107 = .ok (.iaload, 1) := by decide +kernel
theorem dX8_dreamOfOne_108 : decode cX8_dreamOfOne 108 = .ok (.iconst 1, 1) := by decide +kernel
theorem dX8_dreamOfOne_109 : decode cX8_dreamOfOne 109 = .ok (.iadd, 1) := by decide +kernel
theorem dX8_dreamOfOne_110 : decode cX8_dreamOfOne 110 = .ok (.iastore, 1) := by decide +kernel
theorem dX8_dreamOfOne_111 : decode cX8_dreamOfOne 111 = .ok (.return_, 1) := by decide +kernel
theorem dX8_draw_0 : decode cX8_draw 0 = .ok (.aload_n 0, 1) := by decide +kernel
theorem dX8_draw_1 : decode cX8_draw 1 = .ok (.ldc2_w 115, 3) := by decide +kernel
theorem dX8_draw_4 : decode cX8_draw 4 = .ok (.aload_n 0, 1) := by decide +kernel
theorem dX8_draw_5 : decode cX8_draw 5 = .ok (.getfield 90, 3) := by decide +kernel
theorem dX8_draw_8 : decode cX8_draw 8 = .ok (.i2l, 1) := by decide +kernel
theorem dX8_draw_9 : decode cX8_draw 9 = .ok (.lmul, 1) := by decide +kernel
theorem dX8_draw_10 : decode cX8_draw 10 = .ok (.ldc2_w 117, 3) := by decide +kernel
theorem dX8_draw_13 : decode cX8_draw 13 = .ok (.ladd, 1) := by decide +kernel
theorem dX8_draw_14 : decode cX8_draw 14 = .ok (.ldc2_w 119, 3) := by decide +kernel
theorem dX8_draw_17 : decode cX8_draw 17 = .ok (.land, 1) := by decide +kernel
theorem dX8_draw_18 : decode cX8_draw 18 = .ok (.l2i, 1) := by decide +kernel
theorem dX8_draw_19 : decode cX8_draw 19 = .ok (.putfield 90, 3) := by decide +kernel
theorem dX8_draw_22 : decode cX8_draw 22 = .ok (.iload_n 1, 1) := by decide +kernel
theorem dX8_draw_23 : decode cX8_draw 23 = .ok (.ifCond .le 15, 3) := by decide +kernel
theorem dX8_draw_26 : decode cX8_draw 26 = .ok (.aload_n 0, 1) := by decide +kernel
theorem dX8_draw_27 : decode cX8_draw 27 = .ok (.getfield 90, 3) := by decide +kernel
theorem dX8_draw_30 : decode cX8_draw 30 = .ok (.ldc 121, 2) := by decide +kernel
theorem dX8_draw_32 : decode cX8_draw 32 = .ok (.idiv, 1) := by decide +kernel
theorem dX8_draw_33 : decode cX8_draw 33 = .ok (.iload_n 1, 1) := by decide +kernel
theorem dX8_draw_34 : decode cX8_draw 34 = .ok (.irem, 1) := by decide +kernel
theorem dX8_draw_35 : decode cX8_draw 35 = .ok (.goto 4, 3) := by decide +kernel
theorem dX8_draw_38 : decode cX8_draw 38 = .ok (.iconst 0, 1) := by decide +kernel
theorem dX8_draw_39 : decode cX8_draw 39 = .ok (.ireturn, 1) := by decide +kernel
set_option maxRecDepth 20000 in
theorem ggX8_dreamtInRoomZero_X2_peopleInRoomZero : GoodIn wsX8_dreamtInRoomZero wsX2_peopleInRoomZero := goodIn_r _ [6, 7, 8, 17, 18, 19, 20, 21, 22, 23, 24, 25, 26, 27, 28, 29, 30, 31, 32, 33, 34] (by decide +kernel) (by decide +kernel)
set_option maxRecDepth 20000 in
theorem gX8_dreamtInRoomZero_X2_peopleInRoomZero : GoodIn wsX8_dreamtInRoomZero (wsV RX8 122 RX2 yX2_peopleInRoomZero wsX2_peopleInRoomZero) := goodIn_app (goodIn_of _ (by decide +kernel)) ggX8_dreamtInRoomZero_X2_peopleInRoomZero
theorem dX8_dreamtInRoomZero_0 : decode cX8_dreamtInRoomZero 0 = .ok (.aload_n 0, 1) := by decide +kernel
theorem dX8_dreamtInRoomZero_1 : decode cX8_dreamtInRoomZero 1 = .ok (.getfield 24, 3) := by decide +kernel
theorem dX8_dreamtInRoomZero_4 : decode cX8_dreamtInRoomZero 4 = .ok (.invokevirtual 122, 3) := by decide +kernel
theorem dX8_dreamtInRoomZero_7 : decode cX8_dreamtInRoomZero 7 = .ok (.ireturn, 1) := by decide +kernel
theorem dX9_init_0 : decode cX9_init 0 = .ok (.aload_n 0, 1) := by decide +kernel
theorem dX9_init_1 : decode cX9_init 1 = .ok (.invokespecial 3, 3) := by decide +kernel
theorem dX9_init_4 : decode cX9_init 4 = .ok (.aload_n 0, 1) := by decide +kernel
theorem dX9_init_5 : decode cX9_init 5 = .ok (.bipush 7, 2) := by decide +kernel
theorem dX9_init_7 : decode cX9_init 7 = .ok (.newarray .int, 2) := by decide +kernel
theorem dX9_init_9 : decode cX9_init 9 = .ok (.putfield 9, 3) := by decide +kernel
theorem dX9_init_12 : decode cX9_init 12 = .ok (.aload_n 0, 1) := by decide +kernel
theorem dX9_init_13 : decode cX9_init 13 = .ok (.iconst 5, 1) := by decide +kernel
theorem dX9_init_14 : decode cX9_init 14 = .ok (.newarray .int, 2) := by decide +kernel
theorem dX9_init_16 : decode cX9_init 16 = .ok (.putfield 15, 3) := by decide +kernel
theorem dX9_init_19 : decode cX9_init 19 = .ok (.aload_n 0, 1) := by decide +kernel
theorem dX9_init_20 : decode cX9_init 20 = .ok (.iconst 5, 1) := by decide +kernel
theorem dX9_init_21 : decode cX9_init 21 = .ok (.iconst 5, 1) := by decide +kernel
theorem dX9_init_22 : decode cX9_init 22 = .ok (.multianewarray 18 2, 4) := by decide +kernel
theorem dX9_init_26 : decode cX9_init 26 = .ok (.putfield 20, 3) := by decide +kernel
theorem dX9_init_29 : decode cX9_init 29 = .ok (.aload_n 0, 1) := by decide +kernel
theorem dX9_init_30 : decode cX9_init 30 = .ok (.iconst 5, 1) := by decide +kernel
theorem dX9_init_31 : decode cX9_init 31 = .ok (.newarray .int, 2) := by decide +kernel
theorem dX9_init_33 : decode cX9_init 33 = .ok (.putfield 23, 3) := by decide +kernel
theorem dX9_init_36 : decode cX9_init 36 = .ok (.aload_n 0, 1) := by decide +kernel
theorem dX9_init_37 : decode cX9_init 37 = .ok (.iconst 5, 1) := by decide +kernel
theorem dX9_init_38 : decode cX9_init 38 = .ok (.newarray .int, 2) := by decide +kernel
theorem dX9_init_40 : decode cX9_init 40 = .ok (.putfield 26, 3) := by decide +kernel
theorem dX9_init_43 : decode cX9_init 43 = .ok (.aload_n 0, 1) := by decide +kernel
theorem dX9_init_44 : decode cX9_init 44 = .ok (.ldc 29, 2) := by decide +kernel
theorem dX9_init_46 : decode cX9_init 46 = .ok (.putfield 30, 3) := by decide +kernel
theorem dX9_init_49 : decode cX9_init 49 = .ok (.return_, 1) := by decide +kernel
set_option maxRecDepth 20000 in
theorem ggX9_measure_X2_aloneSteps : GoodIn wsX9_measure wsX2_aloneSteps := goodIn_r _ [12, 13, 14, 15, 16, 17, 18, 11, 19, 20, 21, 22, 23, 24, 25, 26, 27, 28, 29, 30, 31, 32, 33, 34, 35, 36, 37, 38, 39, 40, 41, 42, 43, 44, 45, 46, 47, 48, 49, 50, 51, 52, 66, 67, 68, 69, 70, 71, 72, 73, 74, 75, 76, 77, 78, 79, 80, 81, 82, 83] (by decide +kernel) (by decide +kernel)
set_option maxRecDepth 20000 in
theorem gX9_measure_X2_aloneSteps : GoodIn wsX9_measure (wsV RX9 39 RX2 yX2_aloneSteps wsX2_aloneSteps) := goodIn_app (goodIn_of _ (by decide +kernel)) ggX9_measure_X2_aloneSteps
set_option maxRecDepth 20000 in
theorem ggX9_measure_J7_fill_53178 : GoodIn wsX9_measure wsJ7_fill_53178 := goodIn_r _ [56] (by decide +kernel) (by decide +kernel)
set_option maxRecDepth 20000 in
theorem gX9_measure_J7_fill_53178 : GoodIn wsX9_measure (va_wsS RX9 43 yJ7_fill_53178 wsJ7_fill_53178) := goodIn_app (goodIn_of _ (by decide +kernel)) ggX9_measure_J7_fill_53178
set_option maxRecDepth 20000 in
theorem ggX9_measure_X9_shorten : GoodIn wsX9_measure wsX9_shorten := goodIn_r _ [61, 3, 62, 63, 64, 65, 84, 85, 86, 87, 88, 89] (by decide +kernel) (by decide +kernel)
set_option maxRecDepth 20000 in
theorem gX9_measure_X9_shorten : GoodIn wsX9_measure (wsV RX9 58 RX9 yX9_shorten wsX9_shorten) := goodIn_app (goodIn_of _ (by decide +kernel)) ggX9_measure_X9_shorten
theorem dX9_measure_0 : decode cX9_measure 0 = .ok (.iconst 0, 1) := by decide +kernel
theorem dX9_measure_1 : decode cX9_measure 1 = .ok (.istore 4, 2) := by decide +kernel
theorem dX9_measure_3 : decode cX9_measure 3 = .ok (.iload 4, 2) := by decide +kernel
theorem dX9_measure_5 : decode cX9_measure 5 = .ok (.aload_n 1, 1) := by decide +kernel
theorem dX9_measure_6 : decode cX9_measure 6 = .ok (.getfield 34, 3) := by decide +kernel
theorem dX9_measure_9 : decode cX9_measure 9 = .ok (.if_icmp .ge 23, 3) := by decide +kernel
theorem dX9_measure_12 : decode cX9_measure 12 = .ok (.aload_n 0, 1) := by decide +kernel
theorem dX9_measure_13 : decode cX9_measure 13 = .ok (.getfield 9, 3) := by decide +kernel
theorem dX9_measure_16 : decode cX9_measure 16 = .ok (.iload 4, 2) := by decide +kernel
theorem dX9_measure_18 : decode cX9_measure 18 = .ok (.aload_n 1, 1) := by decide +kernel
theorem dX9_measure_19 : decode cX9_measure 19 = .ok (.iload_n 2, 1) := by decide +kernel
theorem dX9_measure_20 : decode cX9_measure 20 = .ok (.iload 4, 2) := by decide +kernel
theorem dX9_measure_22 : decode cX9_measure 22 = .ok (.invokevirtual 39, 3) := by decide +kernel
theorem dX9_measure_25 : decode cX9_measure 25 = .ok (.iastore, 1) := by decide +kernel
theorem dX9_measure_26 : decode cX9_measure 26 = .ok (.iinc 4 1, 3) := by decide +kernel
theorem dX9_measure_29 : decode cX9_measure 29 = .ok (.goto (-26), 3) := by decide +kernel
theorem dX9_measure_32 : decode cX9_measure 32 = .ok (.aload_n 0, 1) := by decide +kernel
theorem dX9_measure_33 : decode cX9_measure 33 = .ok (.getfield 15, 3) := by decide +kernel
theorem dX9_measure_36 : decode cX9_measure 36 = .ok (.ldc 29, 2) := by decide +kernel
theorem dX9_measure_38 : decode cX9_measure 38 = .ok (.invokestatic 43, 3) := by decide +kernel
theorem dX9_measure_41 : decode cX9_measure 41 = .ok (.aload_n 0, 1) := by decide +kernel
theorem dX9_measure_42 : decode cX9_measure 42 = .ok (.getfield 15, 3) := by decide +kernel
theorem dX9_measure_45 : decode cX9_measure 45 = .ok (.iload_n 3, 1) := by decide +kernel
theorem dX9_measure_46 : decode cX9_measure 46 = .ok (.iconst 0, 1) := by decide +kernel
theorem dX9_measure_47 : decode cX9_measure 47 = .ok (.iastore, 1) := by decide +kernel
theorem dX9_measure_48 : decode cX9_measure 48 = .ok (.iconst 1, 1) := by decide +kernel
theorem dX9_measure_49 : decode cX9_measure 49 = .ok (.istore 4, 2) := by decide +kernel
theorem dX9_measure_51 : decode cX9_measure 51 = .ok (.iload 4, 2) := by decide +kernel
theorem dX9_measure_53 : decode cX9_measure 53 = .ok (.aload_n 1, 1) := by decide +kernel
theorem dX9_measure_54 : decode cX9_measure 54 = .ok (.getfield 49, 3) := by decide +kernel
theorem dX9_measure_57 : decode cX9_measure 57 = .ok (.if_icmp .ge 52, 3) := by decide +kernel
theorem dX9_measure_60 : decode cX9_measure 60 = .ok (.iconst 0, 1) := by decide +kernel
theorem dX9_measure_61 : decode cX9_measure 61 = .ok (.istore 5, 2) := by decide +kernel
theorem dX9_measure_63 : decode cX9_measure 63 = .ok (.iload 5, 2) := by decide +kernel
theorem dX9_measure_65 : decode cX9_measure 65 = .ok (.aload_n 1, 1) := by decide +kernel
theorem dX9_measure_66 : decode cX9_measure 66 = .ok (.getfield 34, 3) := by decide +kernel
theorem dX9_measure_69 : decode cX9_measure 69 = .ok (.if_icmp .ge 34, 3) := by decide +kernel
theorem dX9_measure_72 : decode cX9_measure 72 = .ok (.aload_n 0, 1) := by decide +kernel
theorem dX9_measure_73 : decode cX9_measure 73 = .ok (.aload_n 1, 1) := by decide +kernel
theorem dX9_measure_74 : decode cX9_measure 74 = .ok (.getfield 52, 3) := by decide +kernel
theorem dX9_measure_77 : decode cX9_measure 77 = .ok (.iload 5, 2) := by decide +kernel
theorem dX9_measure_79 : decode cX9_measure 79 = .ok (.iaload, 1) := by decide +kernel
theorem dX9_measure_80 : decode cX9_measure 80 = .ok (.aload_n 1, 1) := by decide +kernel
theorem dX9_measure_81 : decode cX9_measure 81 = .ok (.getfield 55, 3) := by decide +kernel
theorem dX9_measure_84 : decode cX9_measure 84 = .ok (.iload 5, 2) := by decide +kernel
theorem dX9_measure_86 : decode cX9_measure 86 = .ok (.iaload, 1) := by decide +kernel
theorem dX9_measure_87 : decode cX9_measure 87 = .ok (.aload_n 0, 1) := by decide +kernel
theorem dX9_measure_88 : decode cX9_measure 88 = .ok (.getfield 9, 3) := by decide +kernel
theorem dX9_measure_91 : decode cX9_measure 91 = .ok (.iload 5, 2) := by decide +kernel
theorem dX9_measure_93 : decode cX9_measure 93 = .ok (.iaload, 1) := by decide +kernel
theorem dX9_measure_94 : decode cX9_measure 94 = .ok (.invokevirtual 58, 3) := by decide +kernel
theorem dX9_measure_97 : decode cX9_measure 97 = .ok (.iinc 5 1, 3) := by decide +kernel
theorem dX9_measure_100 : decode cX9_measure 100 = .ok (.goto (-37), 3) := by decide +kernel
theorem dX9_measure_103 : decode cX9_measure 103 = .ok (.iinc 4 1, 3) := by decide +kernel
theorem dX9_measure_106 : decode cX9_measure 106 = .ok (.goto (-55), 3) := by decide +kernel
theorem dX9_measure_109 : decode cX9_measure 109 = .ok (.return_, 1) := by decide +kernel
theorem dX9_shorten_0 : decode cX9_shorten 0 = .ok (.aload_n 0, 1) := by decide +kernel
theorem dX9_shorten_1 : decode cX9_shorten 1 = .ok (.getfield 15, 3) := by decide +kernel
theorem dX9_shorten_4 : decode cX9_shorten 4 = .ok (.iload_n 1, 1) := by decide +kernel
theorem dX9_shorten_5 : decode cX9_shorten 5 = .ok (.aload_n 0, 1) := by decide +kernel
theorem dX9_shorten_6 : decode cX9_shorten 6 = .ok (.getfield 15, 3) := by decide +kernel
theorem dX9_shorten_9 : decode cX9_shorten 9 = .ok (.iload_n 1, 1) := by decide +kernel
theorem dX9_shorten_10 : decode cX9_shorten 10 = .ok (.iaload, 1) := by decide +kernel
theorem dX9_shorten_11 : decode cX9_shorten 11 = .ok (.aload_n 0, 1) := by decide +kernel
theorem dX9_shorten_12 : decode cX9_shorten 12 = .ok (.getfield 15, 3) := by decide +kernel
theorem dX9_shorten_15 : decode cX9_shorten 15 = .ok (.iload_n 2, 1) := by decide +kernel
theorem dX9_shorten_16 : decode cX9_shorten 16 = .ok (.iaload, 1) := by decide +kernel
theorem dX9_shorten_17 : decode cX9_shorten 17 = .ok (.iload_n 3, 1) := by decide +kernel
theorem dX9_shorten_18 : decode cX9_shorten 18 = .ok (.iadd, 1) := by decide +kernel
theorem dX9_shorten_19 : decode cX9_shorten 19 = .ok (.invokestatic 62, 3) := by decide +kernel
theorem dX9_shorten_22 : decode cX9_shorten 22 = .ok (.iastore, 1) := by decide +kernel
theorem dX9_shorten_23 : decode cX9_shorten 23 = .ok (.aload_n 0, 1) := by decide +kernel
theorem dX9_shorten_24 : decode cX9_shorten 24 = .ok (.getfield 15, 3) := by decide +kernel
theorem dX9_shorten_27 : decode cX9_shorten 27 = .ok (.iload_n 2, 1) := by decide +kernel
theorem dX9_shorten_28 : decode cX9_shorten 28 = .ok (.aload_n 0, 1) := by decide +kernel
theorem dX9_shorten_29 : decode cX9_shorten 29 = .ok (.getfield 15, 3) := by decide +kernel
theorem dX9_shorten_32 : decode cX9_shorten 32 = .ok (.iload_n 2, 1) := by decide +kernel
theorem dX9_shorten_33 : decode cX9_shorten 33 = .ok (.iaload, 1) := by decide +kernel
theorem dX9_shorten_34 : decode cX9_shorten 34 = .ok (.aload_n 0, 1) := by decide +kernel
theorem dX9_shorten_35 : decode cX9_shorten 35 = .ok (.getfield 15, 3) := by decide +kernel
theorem dX9_shorten_38 : decode cX9_shorten 38 = .ok (.iload_n 1, 1) := by decide +kernel
theorem dX9_shorten_39 : decode cX9_shorten 39 = .ok (.iaload, 1) := by decide +kernel
theorem dX9_shorten_40 : decode cX9_shorten 40 = .ok (.iload_n 3, 1) := by decide +kernel
theorem dX9_shorten_41 : decode cX9_shorten 41 = .ok (.iadd, 1) := by decide +kernel
theorem dX9_shorten_42 : decode cX9_shorten 42 = .ok (.invokestatic 62, 3) := by decide +kernel
theorem dX9_shorten_45 : decode cX9_shorten 45 = .ok (.iastore, 1) := by decide +kernel
theorem dX9_shorten_46 : decode cX9_shorten 46 = .ok (.return_, 1) := by decide +kernel
theorem dX9_stepsFrom_0 : decode cX9_stepsFrom 0 = .ok (.aload_n 0, 1) := by decide +kernel
theorem dX9_stepsFrom_1 : decode cX9_stepsFrom 1 = .ok (.getfield 15, 3) := by decide +kernel
theorem dX9_stepsFrom_4 : decode cX9_stepsFrom 4 = .ok (.iload_n 1, 1) := by decide +kernel
theorem dX9_stepsFrom_5 : decode cX9_stepsFrom 5 = .ok (.iaload, 1) := by decide +kernel
theorem dX9_stepsFrom_6 : decode cX9_stepsFrom 6 = .ok (.ldc 29, 2) := by decide +kernel
theorem dX9_stepsFrom_8 : decode cX9_stepsFrom 8 = .ok (.if_icmp .ge 12, 3) := by decide +kernel
theorem dX9_stepsFrom_11 : decode cX9_stepsFrom 11 = .ok (.aload_n 0, 1) := by decide +kernel
theorem dX9_stepsFrom_12 : decode cX9_stepsFrom 12 = .ok (.getfield 15, 3) := by decide +kernel
theorem dX9_stepsFrom_15 : decode cX9_stepsFrom 15 = .ok (.iload_n 1, 1) := by decide +kernel
theorem dX9_stepsFrom_16 : decode cX9_stepsFrom 16 = .ok (.iaload, 1) := by decide +kernel
theorem dX9_stepsFrom_17 : decode cX9_stepsFrom 17 = .ok (.goto 4, 3) := by decide +kernel
theorem dX9_stepsFrom_20 : decode cX9_stepsFrom 20 = .ok (.iconst (-1), 1) := by decide +kernel
theorem dX9_stepsFrom_21 : decode cX9_stepsFrom 21 = .ok (.ireturn, 1) := by decide +kernel
set_option maxRecDepth 20000 in
theorem ggX9_legFrom_X9_nextLeg : GoodIn wsX9_legFrom wsX9_nextLeg := goodIn_r _ [5, 6, 7, 8, 9, 10, 11, 12, 13, 14, 15, 16, 17, 18, 19, 20, 21, 22, 23, 24, 25, 26, 27, 28, 29, 30, 31, 32, 33, 34, 35, 36, 37, 38, 39, 40, 41, 42, 43] (by decide +kernel) (by decide +kernel)
set_option maxRecDepth 20000 in
theorem gX9_legFrom_X9_nextLeg : GoodIn wsX9_legFrom (wsV RX9 67 RX9 yX9_nextLeg wsX9_nextLeg) := goodIn_app (goodIn_of _ (by decide +kernel)) ggX9_legFrom_X9_nextLeg
set_option maxRecDepth 20000 in
theorem ggX9_legFrom_X2_across : GoodIn wsX9_legFrom wsX2_across := goodIn_r _ [19, 14, 15, 20, 21, 22, 23, 24, 25, 26, 27, 28, 29, 30, 31, 32, 33, 34, 35, 36, 37] (by decide +kernel) (by decide +kernel)
set_option maxRecDepth 20000 in
theorem gX9_legFrom_X2_across : GoodIn wsX9_legFrom (wsV RX9 71 RX2 yX2_across wsX2_across) := goodIn_app (goodIn_of _ (by decide +kernel)) ggX9_legFrom_X2_across
theorem dX9_legFrom_0 : decode cX9_legFrom 0 = .ok (.iload_n 2, 1) := by decide +kernel
theorem dX9_legFrom_1 : decode cX9_legFrom 1 = .ok (.istore 4, 2) := by decide +kernel
theorem dX9_legFrom_3 : decode cX9_legFrom 3 = .ok (.aload_n 0, 1) := by decide +kernel
theorem dX9_legFrom_4 : decode cX9_legFrom 4 = .ok (.aload_n 1, 1) := by decide +kernel
theorem dX9_legFrom_5 : decode cX9_legFrom 5 = .ok (.iload 4, 2) := by decide +kernel
theorem dX9_legFrom_7 : decode cX9_legFrom 7 = .ok (.invokevirtual 67, 3) := by decide +kernel
theorem dX9_legFrom_10 : decode cX9_legFrom 10 = .ok (.istore 5, 2) := by decide +kernel
theorem dX9_legFrom_12 : decode cX9_legFrom 12 = .ok (.iconst 0, 1) := by decide +kernel
theorem dX9_legFrom_13 : decode cX9_legFrom 13 = .ok (.istore 6, 2) := by decide +kernel
theorem dX9_legFrom_15 : decode cX9_legFrom 15 = .ok (.iload 6, 2) := by decide +kernel
theorem dX9_legFrom_17 : decode cX9_legFrom 17 = .ok (.iload_n 3, 1) := by decide +kernel
theorem dX9_legFrom_18 : decode cX9_legFrom 18 = .ok (.if_icmp .ge 34, 3) := by decide +kernel
theorem dX9_legFrom_21 : decode cX9_legFrom 21 = .ok (.iload 5, 2) := by decide +kernel
theorem dX9_legFrom_23 : decode cX9_legFrom 23 = .ok (.iconst (-1), 1) := by decide +kernel
theorem dX9_legFrom_24 : decode cX9_legFrom 24 = .ok (.if_icmp .eq 28, 3) := by decide +kernel
theorem dX9_legFrom_27 : decode cX9_legFrom 27 = .ok (.aload_n 1, 1) := by decide +kernel
theorem dX9_legFrom_28 : decode cX9_legFrom 28 = .ok (.iload 5, 2) := by decide +kernel
theorem dX9_legFrom_30 : decode cX9_legFrom 30 = .ok (.iload 4, 2) := by decide +kernel
theorem dX9_legFrom_32 : decode cX9_legFrom 32 = .ok (.invokevirtual 71, 3) := by decide +kernel
theorem dX9_legFrom_35 : decode cX9_legFrom 35 = .ok (.istore 4, 2) := by decide +kernel
theorem dX9_legFrom_37 : decode cX9_legFrom 37 = .ok (.aload_n 0, 1) := by decide +kernel
theorem dX9_legFrom_38 : decode cX9_legFrom 38 = .ok (.aload_n 1, 1) := by decide +kernel
theorem dX9_legFrom_39 : decode cX9_legFrom 39 = .ok (.iload 4, 2) := by decide +kernel
theorem dX9_legFrom_41 : decode cX9_legFrom 41 = .ok (.invokevirtual 67, 3) := by decide +kernel
theorem dX9_legFrom_44 : decode cX9_legFrom 44 = .ok (.istore 5, 2) := by decide +kernel
theorem dX9_legFrom_46 : decode cX9_legFrom 46 = .ok (.iinc 6 1, 3) := by decide +kernel
theorem dX9_legFrom_49 : decode cX9_legFrom 49 = .ok (.goto (-34), 3) := by decide +kernel
theorem dX9_legFrom_52 : decode cX9_legFrom 52 = .ok (.iload 5, 2) := by decide +kernel
theorem dX9_legFrom_54 : decode cX9_legFrom 54 = .ok (.ireturn, 1) := by decide +kernel
set_option maxRecDepth 20000 in
theorem ggX9_nextLeg_X2_endsAt : GoodIn wsX9_nextLeg wsX2_endsAt := goodIn_r _ [8, 9, 10, 15, 16, 17, 18, 19, 20, 21, 22, 23, 24, 25, 26, 27, 28, 29, 30, 31, 32] (by decide +kernel) (by decide +kernel)
set_option maxRecDepth 20000 in
theorem gX9_nextLeg_X2_endsAt : GoodIn wsX9_nextLeg (wsV RX9 74 RX2 yX2_endsAt wsX2_endsAt) := goodIn_app (goodIn_of _ (by decide +kernel)) ggX9_nextLeg_X2_endsAt
set_option maxRecDepth 20000 in
theorem ggX9_nextLeg_X2_across : GoodIn wsX9_nextLeg wsX2_across := goodIn_r _ [14, 9, 10, 15, 16, 17, 18, 19, 20, 21, 22, 23, 24, 25, 26, 27, 28, 29, 30, 31, 32] (by decide +kernel) (by decide +kernel)
set_option maxRecDepth 20000 in
theorem gX9_nextLeg_X2_across : GoodIn wsX9_nextLeg (wsV RX9 71 RX2 yX2_across wsX2_across) := goodIn_app (goodIn_of _ (by decide +kernel)) ggX9_nextLeg_X2_across
theorem dX9_nextLeg_0 : decode cX9_nextLeg 0 = .ok (.iconst 0, 1) := by decide +kernel
theorem dX9_nextLeg_1 : decode cX9_nextLeg 1 = .ok (.istore_n 3, 1) := by decide +kernel
theorem dX9_nextLeg_2 : decode cX9_nextLeg 2 = .ok (.iload_n 3, 1) := by decide +kernel
theorem dX9_nextLeg_3 : decode cX9_nextLeg 3 = .ok (.aload_n 1, 1) := by decide +kernel
theorem dX9_nextLeg_4 : decode cX9_nextLeg 4 = .ok (.getfield 34, 3) := by decide +kernel
theorem dX9_nextLeg_7 : decode cX9_nextLeg 7 = .ok (.if_icmp .ge 47, 3) := by decide +kernel
theorem dX9_nextLeg_10 : decode cX9_nextLeg 10 = .ok (.aload_n 1, 1) := by decide +kernel
theorem dX9_nextLeg_11 : decode cX9_nextLeg 11 = .ok (.iload_n 3, 1) := by decide +kernel
theorem dX9_nextLeg_12 : decode cX9_nextLeg 12 = .ok (.iload_n 2, 1) := by decide +kernel
theorem dX9_nextLeg_13 : decode cX9_nextLeg 13 = .ok (.invokevirtual 74, 3) := by decide +kernel
theorem dX9_nextLeg_16 : decode cX9_nextLeg 16 = .ok (.ifCond .eq 32, 3) := by decide +kernel
theorem dX9_nextLeg_19 : decode cX9_nextLeg 19 = .ok (.aload_n 0, 1) := by decide +kernel
theorem dX9_nextLeg_20 : decode cX9_nextLeg 20 = .ok (.getfield 9, 3) := by decide +kernel
theorem dX9_nextLeg_23 : decode cX9_nextLeg 23 = .ok (.iload_n 3, 1) := by decide +kernel
theorem dX9_nextLeg_24 : decode cX9_nextLeg 24 = .ok (.iaload, 1) := by decide +kernel
theorem dX9_nextLeg_25 : decode cX9_nextLeg 25 = .ok (.aload_n 0, 1) := by decide +kernel
theorem dX9_nextLeg_26 : decode cX9_nextLeg 26 = .ok (.getfield 15, 3) := by decide +kernel
theorem dX9_nextLeg_29 : decode cX9_nextLeg 29 = .ok (.aload_n 1, 1) := by decide +kernel
theorem dX9_nextLeg_30 : decode cX9_nextLeg 30 = .ok (.iload_n 3, 1) := by decide +kernel
theorem dX9_nextLeg_31 : decode cX9_nextLeg 31 = .ok (.iload_n 2, 1) := by decide +kernel
theorem dX9_nextLeg_32 : decode cX9_nextLeg 32 = .ok (.invokevirtual 71, 3) := by decide +kernel
theorem dX9_nextLeg_35 : decode cX9_nextLeg 35 = .ok (.iaload, 1) := by decide +kernel
theorem dX9_nextLeg_36 : decode cX9_nextLeg 36 = .ok (.iadd, 1) := by decide +kernel
theorem dX9_nextLeg_37 : decode cX9_nextLeg 37 = .ok (.aload_n 0, 1) := by decide +kernel
theorem dX9_nextLeg_38 : decode cX9_nextLeg 38 = .ok (.getfield 15, 3) := by decide +kernel
theorem dX9_nextLeg_41 : decode cX9_nextLeg 41 = .ok (.iload_n 2, 1) := by decide +kernel
theorem dX9_nextLeg_42 : decode cX9_nextLeg 42 = .ok (.iaload, 1) := by decide +kernel
theorem dX9_nextLeg_43 : decode cX9_nextLeg 43 = .ok (.if_icmp .ne 5, 3) := by decide +kernel
theorem dX9_nextLeg_46 : decode cX9_nextLeg 46 = .ok (.iload_n 3, 1) := by decide +kernel
theorem dX9_nextLeg_47 : decode cX9_nextLeg 47 = .ok (.ireturn, 1) := by decide +kernel
theorem dX9_nextLeg_48 : decode cX9_nextLeg 48 = .ok (.iinc 3 1, 3) := by decide +kernel
theorem dX9_nextLeg_51 : decode cX9_nextLeg 51 = .ok (.goto (-49), 3) := by decide +kernel
theorem dX9_nextLeg_54 : decode cX9_nextLeg 54 = .ok (.iconst (-1), 1) := by decide +kernel
theorem dX9_nextLeg_55 : decode cX9_nextLeg 55 = .ok (.ireturn, 1) := by decide +kernel
set_option maxRecDepth 20000 in
theorem ggX9_assign_X9_measure : GoodIn wsX9_assign wsX9_measure := goodIn_r _ [15, 16, 17, 3, 9, 18, 19, 20, 21, 22, 23, 24, 25, 26, 27, 28, 29, 30, 31, 32, 33, 34, 35, 36, 37, 38, 39, 40, 41, 42, 43, 44, 45, 46, 47, 48, 49, 50, 51, 52, 53, 54, 55, 56, 57, 58, 59, 60, 61, 62, 63, 64, 65, 66, 67, 68, 69, 70, 71, 72, 14, 73, 74, 75, 76, 77, 83, 84, 85, 86, 87, 88, 89, 90, 91, 92, 93, 94, 95, 96, 97, 98, 99, 100, 101, 102, 103, 104, 105, 106] (by decide +kernel) (by decide +kernel)
set_option maxRecDepth 20000 in
theorem gX9_assign_X9_measure : GoodIn wsX9_assign (wsV RX9 84 RX9 yX9_measure wsX9_measure) := goodIn_app (goodIn_of _ (by decide +kernel)) ggX9_assign_X9_measure
set_option maxRecDepth 20000 in
theorem ggX9_assign_X9_assignFrom : GoodIn wsX9_assign wsX9_assignFrom := goodIn_r _ [80, 10, 18, 81, 82, 5, 6, 7, 8, 1, 4, 78, 79, 14, 101, 102, 103, 104, 105, 106, 83, 84, 85, 86, 87, 88, 89, 90, 91, 92, 93, 94, 95, 96, 97, 98, 99, 100] (by decide +kernel) (by decide +kernel)
set_option maxRecDepth 20000 in
theorem gX9_assign_X9_assignFrom : GoodIn wsX9_assign (va_wsS RX9 94 yX9_assignFrom wsX9_assignFrom) := goodIn_app (goodIn_of _ (by decide +kernel)) ggX9_assign_X9_assignFrom
theorem dX9_assign_0 : decode cX9_assign 0 = .ok (.iconst 0, 1) := by decide +kernel
theorem dX9_assign_1 : decode cX9_assign 1 = .ok (.istore_n 2, 1) := by decide +kernel
theorem dX9_assign_2 : decode cX9_assign 2 = .ok (.iload_n 2, 1) := by decide +kernel
theorem dX9_assign_3 : decode cX9_assign 3 = .ok (.aload_n 1, 1) := by decide +kernel
theorem dX9_assign_4 : decode cX9_assign 4 = .ok (.getfield 78, 3) := by decide +kernel
theorem dX9_assign_7 : decode cX9_assign 7 = .ok (.if_icmp .ge 37, 3) := by decide +kernel
theorem dX9_assign_10 : decode cX9_assign 10 = .ok (.aload_n 0, 1) := by decide +kernel
theorem dX9_assign_11 : decode cX9_assign 11 = .ok (.aload_n 1, 1) := by decide +kernel
theorem dX9_assign_12 : decode cX9_assign 12 = .ok (.iload_n 2, 1) := by decide +kernel
theorem dX9_assign_13 : decode cX9_assign 13 = .ok (.aload_n 1, 1) := by decide +kernel
theorem dX9_assign_14 : decode cX9_assign 14 = .ok (.getfield 81, 3) := by decide +kernel
theorem dX9_assign_17 : decode cX9_assign 17 = .ok (.iload_n 2, 1) := by decide +kernel
theorem dX9_assign_18 : decode cX9_assign 18 = .ok (.iaload, 1) := by decide +kernel
theorem dX9_assign_19 : decode cX9_assign 19 = .ok (.invokevirtual 84, 3) := by decide +kernel
theorem dX9_assign_22 : decode cX9_assign 22 = .ok (.aload_n 0, 1) := by decide +kernel
theorem dX9_assign_23 : decode cX9_assign 23 = .ok (.getfield 15, 3) := by decide +kernel
theorem dX9_assign_26 : decode cX9_assign 26 = .ok (.iconst 0, 1) := by decide +kernel
theorem dX9_assign_27 : decode cX9_assign 27 = .ok (.aload_n 0, 1) := by decide +kernel
theorem dX9_assign_28 : decode cX9_assign 28 = .ok (.getfield 20, 3) := by decide +kernel
theorem dX9_assign_31 : decode cX9_assign 31 = .ok (.iload_n 2, 1) := by decide +kernel
theorem dX9_assign_32 : decode cX9_assign 32 = .ok (.aaload, 1) := by decide +kernel
theorem dX9_assign_33 : decode cX9_assign 33 = .ok (.iconst 0, 1) := by decide +kernel
theorem dX9_assign_34 : decode cX9_assign 34 = .ok (.iconst 5, 1) := by decide +kernel
theorem dX9_assign_35 : decode cX9_assign 35 = .ok (.invokestatic 88, 3) := by decide +kernel
theorem dX9_assign_38 : decode cX9_assign 38 = .ok (.iinc 2 1, 3) := by decide +kernel
theorem dX9_assign_41 : decode cX9_assign 41 = .ok (.goto (-39), 3) := by decide +kernel
theorem dX9_assign_44 : decode cX9_assign 44 = .ok (.aload_n 0, 1) := by decide +kernel
theorem dX9_assign_45 : decode cX9_assign 45 = .ok (.ldc 29, 2) := by decide +kernel
theorem dX9_assign_47 : decode cX9_assign 47 = .ok (.putfield 30, 3) := by decide +kernel
theorem dX9_assign_50 : decode cX9_assign 50 = .ok (.aload_n 0, 1) := by decide +kernel
theorem dX9_assign_51 : decode cX9_assign 51 = .ok (.aload_n 1, 1) := by decide +kernel
theorem dX9_assign_52 : decode cX9_assign 52 = .ok (.iconst 1, 1) := by decide +kernel
theorem dX9_assign_53 : decode cX9_assign 53 = .ok (.iconst 0, 1) := by decide +kernel
theorem dX9_assign_54 : decode cX9_assign 54 = .ok (.iconst 0, 1) := by decide +kernel
theorem dX9_assign_55 : decode cX9_assign 55 = .ok (.invokestatic 94, 3) := by decide +kernel
theorem dX9_assign_58 : decode cX9_assign 58 = .ok (.return_, 1) := by decide +kernel
set_option maxRecDepth 20000 in
theorem ggX9_assignFrom_X9_assignFrom : GoodIn wsX9_assignFrom wsX9_assignFrom := goodIn_r _ [0, 1, 2, 3, 4, 5, 6, 7, 8, 9, 10, 11, 12, 13, 14, 15, 16, 17, 18, 19, 20, 21, 22, 23, 24, 25, 26, 27, 28, 29, 30, 31, 32, 33, 34, 35, 36, 37] (by decide +kernel) (by decide +kernel)
set_option maxRecDepth 20000 in
theorem gX9_assignFrom_X9_assignFrom : GoodIn wsX9_assignFrom (va_wsS RX9 94 yX9_assignFrom wsX9_assignFrom) := goodIn_app (goodIn_of _ (by decide +kernel)) ggX9_assignFrom_X9_assignFrom
theorem dX9_assignFrom_0 : decode cX9_assignFrom 0 = .ok (.iload 4, 2) := by decide +kernel
theorem dX9_assignFrom_2 : decode cX9_assignFrom 2 = .ok (.aload_n 0, 1) := by decide +kernel
theorem dX9_assignFrom_3 : decode cX9_assignFrom 3 = .ok (.getfield 30, 3) := by decide +kernel
theorem dX9_assignFrom_6 : decode cX9_assignFrom 6 = .ok (.if_icmp .lt 4, 3) := by decide +kernel
theorem dX9_assignFrom_9 : decode cX9_assignFrom 9 = .ok (.return_, 1) := by decide +kernel
theorem dX9_assignFrom_10 : decode cX9_assignFrom 10 = .ok (.iload_n 2, 1) := by decide +kernel
theorem dX9_assignFrom_11 : decode cX9_assignFrom 11 = .ok (.aload_n 1, 1) := by decide +kernel
theorem dX9_assignFrom_12 : decode cX9_assignFrom 12 = .ok (.getfield 49, 3) := by decide +kernel
theorem dX9_assignFrom_15 : decode cX9_assignFrom 15 = .ok (.if_icmp .ge 8, 3) := by decide +kernel
theorem dX9_assignFrom_18 : decode cX9_assignFrom 18 = .ok (.iload_n 2, 1) := by decide +kernel
theorem dX9_assignFrom_19 : decode cX9_assignFrom 19 = .ok (.iconst 5, 1) := by decide +kernel
theorem dX9_assignFrom_20 : decode cX9_assignFrom 20 = .ok (.if_icmp .lt 24, 3) := by decide +kernel
theorem dX9_assignFrom_23 : decode cX9_assignFrom 23 = .ok (.aload_n 0, 1) := by decide +kernel
theorem dX9_assignFrom_24 : decode cX9_assignFrom 24 = .ok (.iload 4, 2) := by decide +kernel
theorem dX9_assignFrom_26 : decode cX9_assignFrom 26 = .ok (.putfield 30, 3) := by decide +kernel
theorem dX9_assignFrom_29 : decode cX9_assignFrom 29 = .ok (.aload_n 0, 1) := by decide +kernel
theorem dX9_assignFrom_30 : decode cX9_assignFrom 30 = .ok (.getfield 23, 3) := by decide +kernel
theorem dX9_assignFrom_33 : decode cX9_assignFrom 33 = .ok (.iconst 0, 1) := by decide +kernel
theorem dX9_assignFrom_34 : decode cX9_assignFrom 34 = .ok (.aload_n 0, 1) := by decide +kernel
theorem dX9_assignFrom_35 : decode cX9_assignFrom 35 = .ok (.getfield 26, 3) := by decide +kernel
theorem dX9_assignFrom_38 : decode cX9_assignFrom 38 = .ok (.iconst 0, 1) := by decide +kernel
theorem dX9_assignFrom_39 : decode cX9_assignFrom 39 = .ok (.iconst 5, 1) := by decide +kernel
theorem dX9_assignFrom_40 : decode cX9_assignFrom 40 = .ok (.invokestatic 88, 3) := by decide +kernel
theorem dX9_assignFrom_43 : decode cX9_assignFrom 43 = .ok (.return_, 1) := by decide +kernel
theorem dX9_assignFrom_44 : decode cX9_assignFrom 44 = .ok (.iconst 0, 1) := by decide +kernel
theorem dX9_assignFrom_45 : decode cX9_assignFrom 45 = .ok (.istore 5, 2) := by decide +kernel
theorem dX9_assignFrom_47 : decode cX9_assignFrom 47 = .ok (.iload 5, 2) := by decide +kernel
theorem dX9_assignFrom_49 : decode cX9_assignFrom 49 = .ok (.aload_n 1, 1) := by decide +kernel
theorem dX9_assignFrom_50 : decode cX9_assignFrom 50 = .ok (.getfield 78, 3) := by decide +kernel
theorem dX9_assignFrom_53 : decode cX9_assignFrom 53 = .ok (.if_icmp .ge 52, 3) := by decide +kernel
theorem dX9_assignFrom_56 : decode cX9_assignFrom 56 = .ok (.iload_n 3, 1) := by decide +kernel
theorem dX9_assignFrom_57 : decode cX9_assignFrom 57 = .ok (.iload 5, 2) := by decide +kernel
theorem dX9_assignFrom_59 : decode cX9_assignFrom 59 = .ok (.ishr, 1) := by decide +kernel
theorem dX9_assignFrom_60 : decode cX9_assignFrom 60 = .ok (.iconst 1, 1) := by decide +kernel
theorem dX9_assignFrom_61 : decode cX9_assignFrom 61 = .ok (.iand, 1) := by decide +kernel
theorem dX9_assignFrom_62 : decode cX9_assignFrom 62 = .ok (.ifCond .ne 37, 3) := by decide +kernel
theorem dX9_assignFrom_65 : decode cX9_assignFrom 65 = .ok (.aload_n 0, 1) := by decide +kernel
theorem dX9_assignFrom_66 : decode cX9_assignFrom 66 = .ok (.getfield 23, 3) := by decide +kernel
theorem dX9_assignFrom_69 : decode cX9_assignFrom 69 = .ok (.iload_n 2, 1) := by decide +kernel
theorem dX9_assignFrom_70 : decode cX9_assignFrom 70 = .ok (.iload 5, 2) := by decide +kernel
theorem dX9_assignFrom_72 : decode cX9_assignFrom 72 = .ok (.iastore, 1) := by decide +kernel
theorem dX9_assignFrom_73 : decode cX9_assignFrom 73 = .ok (.aload_n 0, 1) := by decide +kernel
theorem dX9_assignFrom_74 : decode cX9_assignFrom 74 = .ok (.aload_n 1, 1) := by decide +kernel
theorem dX9_assignFrom_75 : decode cX9_assignFrom 75 = .ok (.iload_n 2, 1) := by decide +kernel
theorem dX9_assignFrom_76 : decode cX9_assignFrom 76 = .ok (.iconst 1, 1) := by decide +kernel
theorem dX9_assignFrom_77 : decode cX9_assignFrom 77 = .ok (.iadd, 1) := by decide +kernel
theorem dX9_assignFrom_78 : decode cX9_assignFrom 78 = .ok (.iload_n 3, 1) := by decide +kernel
theorem dX9_assignFrom_79 : decode cX9_assignFrom 79 = .ok (.iconst 1, 1) := by decide +kernel
theorem dX9_assignFrom_80 : decode cX9_assignFrom 80 = .ok (.iload 5, 2) := by decide +kernel
theorem dX9_assignFrom_82 : decode cX9_assignFrom 82 = .ok (.ishl, 1) := by decide +kernel
theorem dX9_assignFrom_83 : decode cX9_assignFrom 83 = .ok (.ior, 1) := by decide +kernel
theorem dX9_assignFrom_84 : decode cX9_assignFrom 84 = .ok (.iload 4, 2) := by decide +kernel
theorem dX9_assignFrom_86 : decode cX9_assignFrom 86 = .ok (.aload_n 0, 1) := by decide +kernel
theorem dX9_assignFrom_87 : decode cX9_assignFrom 87 = .ok (.getfield 20, 3) := by decide +kernel
theorem dX9_assignFrom_90 : decode cX9_assignFrom 90 = .ok (.iload 5, 2) := by decide +kernel
theorem dX9_assignFrom_92 : decode cX9_assignFrom 92 = .ok (.aaload, 1) := by decide +kernel
theorem dX9_assignFrom_93 : decode cX9_assignFrom 93 = .ok (.iload_n 2, 1) := by decide +kernel
theorem dX9_assignFrom_94 : decode cX9_assignFrom 94 = .ok (.iaload, 1) := by decide +kernel
theorem dX9_assignFrom_95 : decode cX9_assignFrom 95 = .ok (.iadd, 1) := by decide +kernel
theorem dX9_assignFrom_96 : decode cX9_assignFrom 96 = .ok (.invokestatic 94, 3) := by decide +kernel
theorem dX9_assignFrom_99 : decode cX9_assignFrom 99 = .ok (.iinc 5 1, 3) := by decide +kernel
theorem dX9_assignFrom_102 : decode cX9_assignFrom 102 = .ok (.goto (-55), 3) := by decide +kernel
theorem dX9_assignFrom_105 : decode cX9_assignFrom 105 = .ok (.return_, 1) := by decide +kernel
theorem dX9_assignedSteps_0 : decode cX9_assignedSteps 0 = .ok (.aload_n 0, 1) := by decide +kernel
theorem dX9_assignedSteps_1 : decode cX9_assignedSteps 1 = .ok (.getfield 30, 3) := by decide +kernel
theorem dX9_assignedSteps_4 : decode cX9_assignedSteps 4 = .ok (.ldc 29, 2) := by decide +kernel
theorem dX9_assignedSteps_6 : decode cX9_assignedSteps 6 = .ok (.if_icmp .ge 10, 3) := by decide +kernel
theorem dX9_assignedSteps_9 : decode cX9_assignedSteps 9 = .ok (.aload_n 0, 1) := by decide +kernel
theorem dX9_assignedSteps_10 : decode cX9_assignedSteps 10 = .ok (.getfield 30, 3) := by decide +kernel
theorem dX9_assignedSteps_13 : decode cX9_assignedSteps 13 = .ok (.goto 4, 3) := by decide +kernel
theorem dX9_assignedSteps_16 : decode cX9_assignedSteps 16 = .ok (.iconst (-1), 1) := by decide +kernel
theorem dX9_assignedSteps_17 : decode cX9_assignedSteps 17 = .ok (.ireturn, 1) := by decide +kernel
set_option maxRecDepth 20000 in
theorem ggX9_assignedTo_X2_hasRoom : GoodIn wsX9_assignedTo wsX2_hasRoom := goodIn_r _ [8, 9, 16, 17, 18, 19, 20, 21, 22, 23, 24, 25, 26, 27, 28, 29, 30, 31, 32, 33] (by decide +kernel) (by decide +kernel)
set_option maxRecDepth 20000 in
theorem gX9_assignedTo_X2_hasRoom : GoodIn wsX9_assignedTo (wsV RX9 98 RX2 yX2_hasRoom wsX2_hasRoom) := goodIn_app (goodIn_of _ (by decide +kernel)) ggX9_assignedTo_X2_hasRoom
theorem dX9_assignedTo_0 : decode cX9_assignedTo 0 = .ok (.aload_n 0, 1) := by decide +kernel
theorem dX9_assignedTo_1 : decode cX9_assignedTo 1 = .ok (.getfield 30, 3) := by decide +kernel
theorem dX9_assignedTo_4 : decode cX9_assignedTo 4 = .ok (.ldc 29, 2) := by decide +kernel
theorem dX9_assignedTo_6 : decode cX9_assignedTo 6 = .ok (.if_icmp .ge 20, 3) := by decide +kernel
theorem dX9_assignedTo_9 : decode cX9_assignedTo 9 = .ok (.aload_n 1, 1) := by decide +kernel
theorem dX9_assignedTo_10 : decode cX9_assignedTo 10 = .ok (.iload_n 2, 1) := by decide +kernel
theorem dX9_assignedTo_11 : decode cX9_assignedTo 11 = .ok (.invokevirtual 98, 3) := by decide +kernel
theorem dX9_assignedTo_14 : decode cX9_assignedTo 14 = .ok (.ifCond .eq 12, 3) := by decide +kernel
theorem dX9_assignedTo_17 : decode cX9_assignedTo 17 = .ok (.aload_n 0, 1) := by decide +kernel
theorem dX9_assignedTo_18 : decode cX9_assignedTo 18 = .ok (.getfield 26, 3) := by decide +kernel
theorem dX9_assignedTo_21 : decode cX9_assignedTo 21 = .ok (.iload_n 2, 1) := by decide +kernel
theorem dX9_assignedTo_22 : decode cX9_assignedTo 22 = .ok (.iaload, 1) := by decide +kernel
theorem dX9_assignedTo_23 : decode cX9_assignedTo 23 = .ok (.goto 4, 3) := by decide +kernel
theorem dX9_assignedTo_26 : decode cX9_assignedTo 26 = .ok (.iconst (-1), 1) := by decide +kernel
theorem dX9_assignedTo_27 : decode cX9_assignedTo 27 = .ok (.ireturn, 1) := by decide +kernel
set_option maxRecDepth 20000 in
theorem ggX10_init_X1_init : GoodIn wsX10_init wsX1_init := goodIn_r _ [3, 4, 5, 6] (by decide +kernel) (by decide +kernel)
set_option maxRecDepth 20000 in
theorem gX10_init_X1_init_n1 : GoodIn wsX10_init (wsX1_init) := ggX10_init_X1_init
theorem dX10_init_0 : decode cX10_init 0 = .ok (.aload_n 0, 1) := by decide +kernel
theorem dX10_init_1 : decode cX10_init 1 = .ok (.invokespecial 1, 3) := by decide +kernel
theorem dX10_init_4 : decode cX10_init 4 = .ok (.return_, 1) := by decide +kernel
set_option maxRecDepth 20000 in
theorem ggX10_yards_X1_yards : GoodIn wsX10_yards wsX1_yards := goodIn_r _ [6] (by decide +kernel) (by decide +kernel)
set_option maxRecDepth 20000 in
theorem gX10_yards_X1_yards_s7 : GoodIn wsX10_yards (va_wsSU RX10 7 yX1_yards wsX1_yards) := goodIn_app (goodIn_of _ (by decide +kernel)) ggX10_yards_X1_yards
theorem dX10_yards_0 : decode cX10_yards 0 = .ok (.aload_n 0, 1) := by decide +kernel
theorem dX10_yards_1 : decode cX10_yards 1 = .ok (.iload_n 1, 1) := by decide +kernel
theorem dX10_yards_2 : decode cX10_yards 2 = .ok (.iload_n 2, 1) := by decide +kernel
theorem dX10_yards_3 : decode cX10_yards 3 = .ok (.iload_n 3, 1) := by decide +kernel
theorem dX10_yards_4 : decode cX10_yards 4 = .ok (.invokespecial 7, 3) := by decide +kernel
theorem dX10_yards_7 : decode cX10_yards 7 = .ok (.iconst 4, 1) := by decide +kernel
theorem dX10_yards_8 : decode cX10_yards 8 = .ok (.iadd, 1) := by decide +kernel
theorem dX10_yards_9 : decode cX10_yards 9 = .ok (.iconst 5, 1) := by decide +kernel
theorem dX10_yards_10 : decode cX10_yards 10 = .ok (.idiv, 1) := by decide +kernel
theorem dX10_yards_11 : decode cX10_yards 11 = .ok (.ireturn, 1) := by decide +kernel
end
section
/-! The judgement V: a method's body over named cells. Names are numbers; 'ad' says where a named cell lies, 'ce M' what it holds in the memory M. -/
abbrev Mm : Type := (Nat → Nat → Int32) × (Nat → Nat → Int64)
def wl (ad : Nat → Nat) (ns : List Nat) (f : Nat → va_E) : va_W := ns.map (fun n => (ad n, f n))
def wI (M : Mm) (n : Nat) (f : Nat → Int32) : Mm := (va_up M.1 n f, M.2)
def wJ (M : Mm) (n : Nat) (f : Nat → Int64) : Mm := (M.1, va_up M.2 n f)
theorem wI_same (M : Mm) (n : Nat) (f : Nat → Int32) : (wI M n f).1 n = f := by simp [wI, va_up]
theorem wI_ne (M : Mm) {n j : Nat} (f : Nat → Int32) (h : j ≠ n) : (wI M n f).1 j = M.1 j := by simp [wI, va_up, h]
theorem wI_2 (M : Mm) (n : Nat) (f : Nat → Int32) : (wI M n f).2 = M.2 := rfl
theorem wJ_same (M : Mm) (n : Nat) (f : Nat → Int64) : (wJ M n f).2 n = f := by simp [wJ, va_up]
theorem wJ_ne (M : Mm) {n j : Nat} (f : Nat → Int64) (h : j ≠ n) : (wJ M n f).2 j = M.2 j := by simp [wJ, va_up, h]
theorem wJ_1 (M : Mm) (n : Nat) (f : Nat → Int64) : (wJ M n f).1 = M.1 := rfl
def Lo (ce : Mm → Nat → va_E) : Prop := ∀ (M M' : Mm) (n : Nat), M.1 n = M'.1 n → M.2 n = M'.2 n → ce M n = ce M' n
def Gd (A : Nat → Prop) (ad : Nat → Nat) (ns : List Nat) : Prop := (∀ (i j a b : Nat), ns[i]? = some a → ns[j]? = some b → ad a = ad b → i = j) ∧ ∀ n, n ∈ ns → A (ad n)
theorem wl_at {ad : Nat → Nat} {ns : List Nat} {f : Nat → va_E} {k : Nat} {x : Nat × va_E} (h : (wl ad ns f)[k]? = some x) : ∃ a, ns[k]? = some a ∧ x = (ad a, f a) := by
  unfold wl at h
  rw [List.getElem?_map] at h
  cases hk : ns[k]? with
  | none => rw [hk] at h; cases h
  | some a => rw [hk] at h; exact ⟨a, rfl, (Option.some.inj h).symm⟩
theorem wl_of {ad : Nat → Nat} {ns : List Nat} {f : Nat → va_E} {k a : Nat} (h : ns[k]? = some a) : (wl ad ns f)[k]? = some (ad a, f a) := by
  unfold wl
  rw [List.getElem?_map, h]
  rfl
theorem Gd.D {A : Nat → Prop} {ad : Nat → Nat} {ns : List Nat} (G : Gd A ad ns) (f : Nat → va_E) : va_D A (wl ad ns f) := by
  refine ⟨fun i j x y hx hy hxy => ?_, fun k x hx => ?_⟩
  · obtain ⟨a, ha, rfl⟩ := wl_at hx
    obtain ⟨b, hb, rfl⟩ := wl_at hy
    exact G.1 i j a b ha hb hxy
  · obtain ⟨a, ha, rfl⟩ := wl_at hx
    exact G.2 a (List.mem_of_getElem? ha)
theorem wl_get {ad : Nat → Nat} {ns : List Nat} (f : Nat → va_E) {n : Nat} (hn : n ∈ ns) : ∃ k : Nat, (wl ad ns f)[k]? = some (ad n, f n) := by
  obtain ⟨k, hk⟩ := List.getElem?_of_mem hn
  exact ⟨k, wl_of hk⟩
theorem wl_set {A : Nat → Prop} {ad : Nat → Nat} {ns : List Nat} {f g : Nat → va_E} {k n : Nat} {e : va_E} (G : Gd A ad ns) (hk : (wl ad ns f)[k]? = some (ad n, f n)) (hn : n ∈ ns) (hg : g n = e) (ho : ∀ j, j ≠ n → g j = f j) : (wl ad ns f).set k (ad n, e) = wl ad ns g := by
  obtain ⟨a, ha, hae⟩ := wl_at hk
  have had : ad n = ad a := congrArg Prod.fst hae
  obtain ⟨k2, hk2⟩ := List.getElem?_of_mem hn
  have hkk : k = k2 := G.1 k k2 a n ha hk2 had.symm
  subst hkk
  have han : a = n := Option.some.inj (ha.symm.trans hk2)
  subst han
  apply List.ext_getElem?
  intro i
  by_cases hi : i = k
  · subst hi
    have hlt : i < (wl ad ns f).length := (List.getElem?_eq_some_iff.mp hk).1
    rw [List.getElem?_set_self hlt, wl_of ha, hg]
  · rw [List.getElem?_set_ne (fun q => hi q.symm)]
    unfold wl
    rw [List.getElem?_map, List.getElem?_map]
    cases hx : ns[i]? with
    | none => rfl
    | some b =>
      have hb : b ≠ a := fun q => hi (by subst q; exact G.1 i k b b hx ha rfl)
      show some (ad b, f b) = some (ad b, g b)
      rw [ho b hb]
def Wd (D : va_G) (tys : List (ClassId × FieldType)) (ad : Nat → Nat) (ns : List Nat) (ce : Mm → Nat → va_E) (M : Mm) (U : State) : Prop := va_P D vwCl (wl ad ns (ce M)) U.heap ∧ va_K D vwCl tys U
def Cx (p : Program) (s : State) (m : MethodId) (args : Array Value) (c : Code) (cc : ByteArray) (nL : Nat) (own : String) (Ts : List Cond) (D : va_G) (tys : List (ClassId × FieldType)) (A : Nat → Prop) (ad : Nat → Nat) (ns : List Nat) (ce : Mm → Nat → va_E) : Prop :=
  CallFix p m c cc nL s args Ts own ∧ va_K D vwCl tys s ∧ Gd A ad ns ∧ Lo ce
def V (p : Program) (l : Launch) (e : Env) (R : Room) (s : State) (m : MethodId) (args : Array Value) (below : List Frame) (meth : Method) (c : Code) (Q : State → Prop) (D : va_G) (A : Nat → Prop) (ad : Nat → Nat) (ns : List Nat) (ce : Mm → Nat → va_E) (nL : Nat) (M : Mm) (lv : List (Nat × Value)) (pc : Nat) (st : List Value) : Prop :=
  ∀ (H : Heap) (locs : List Loc) (ls : Array Slot), va_P D vwCl (wl ad ns (ce M)) H → va_S A s.heap H locs → lv_has ls nL lv → W p l e R s m args below meth c H locs 0 0 Q (F0 m pc ls st)
def CI (l : Launch) (y : MethodName) (ws : List Cond) (rm : Room) (D : va_G) (tys : List (ClassId × FieldType)) (A : Nat → Prop) (ad : Nat → Nat) (ns : List Nat) (ce : Mm → Nat → va_E) (av : List Value) (M : Mm) (post : Int32 → Mm → Prop) : Prop := Met l y ws rm (va_Pc av (Wd D tys ad ns ce M)) (va_Qi post (Wd D tys ad ns ce) A) 0 0 A
def CL (l : Launch) (y : MethodName) (ws : List Cond) (rm : Room) (D : va_G) (tys : List (ClassId × FieldType)) (A : Nat → Prop) (ad : Nat → Nat) (ns : List Nat) (ce : Mm → Nat → va_E) (av : List Value) (M : Mm) (post : Int64 → Mm → Prop) : Prop := Met l y ws rm (va_Pc av (Wd D tys ad ns ce M)) (va_Ql post (Wd D tys ad ns ce) A) 0 0 A
def CV (l : Launch) (y : MethodName) (ws : List Cond) (rm : Room) (D : va_G) (tys : List (ClassId × FieldType)) (A : Nat → Prop) (ad : Nat → Nat) (ns : List Nat) (ce : Mm → Nat → va_E) (av : List Value) (M : Mm) (post : Mm → Prop) : Prop := Met l y ws rm (va_Pc av (Wd D tys ad ns ce M)) (va_Qv post (Wd D tys ad ns ce) A) 0 0 A
def CR (l : Launch) (y : MethodName) (ws : List Cond) (rm : Room) (D : va_G) (tys : List (ClassId × FieldType)) (A : Nat → Prop) (ad : Nat → Nat) (ns : List Nat) (ce : Mm → Nat → va_E) (av : List Value) (M : Mm) (post : Nat → Mm → Prop) : Prop := Met l y ws rm (va_Pc av (Wd D tys ad ns ce M)) (va_Qr (fun u : Nat × Mm => post u.1 u.2) (fun u a t => a = ad u.1 ∧ Wd D tys ad ns ce u.2 t) A) 0 0 A
def rmL (d : Nat) : Room := { frames := d, cells := 0, slots := 0, locals := 64 * d }
theorem Wd.blind {D : va_G} {tys : List (ClassId × FieldType)} {ad : Nat → Nat} {ns : List Nat} {ce : Mm → Nat → va_E} {M : Mm} {av : List Value} : FrameBlind (va_Pc av (Wd D tys ad ns ce M)) := fun a U g mk q => ⟨q.1, q.2.1, va_K.moved (u := U) (U := U.calling g mk a) (Vm.Alike.refl U.vm) q.2.2⟩
theorem Met_V {l : Launch} {y : MethodName} {ws ws' : List Cond} {rm : Room} {D : va_G} {tys : List (ClassId × FieldType)} {A : Nat → Prop} {ad : Nat → Nat} {ns : List Nat} {ce : Mm → Nat → va_E} {av : List Value} {M : Mm} {Qc : Array Value → State → Outcome → State → Prop} {cc : ByteArray} {maxL : Nat} {ret : Option FieldType} {lv : List (Nat × Value)}
    (hy : plainName y.cls = true) (hw : ws = Cond.code y cc maxL ret :: ws') (G : Gd A ad ns) (hL : Lo ce) (hlen : (lg_sl av).length ≤ maxL) (hlv : lv_args 0 av = lv)
    (body : ∀ (p : Program) (e : Env) (s : State) (m : MethodId) (args : Array Value) (below : List Frame) (meth : Method) (c : Code), Cx p s m args c cc maxL y.cls ws D tys A ad ns ce → meth.sig.returnType = ret → meth.locks = false → V p l e rm s m args below meth c (MQ below Qc args s 0 0 A) D A ad ns ce maxL M lv 0 []) : Met l y ws rm (va_Pc av (Wd D tys ad ns ce M)) Qc 0 0 A := by
  subst hlv
  refine Met.ofW (cc := cc) (maxL := maxL) (ret := ret) hy hw ?_
  intro p e s m args below meth c s₁ B hml hv
  obtain ⟨rfl, hP, hK⟩ := hv
  have hl := lv_entry av (n := maxL) hlen
  rw [lg_entry_eq]
  exact body p e s m _ below meth c ⟨⟨B.exec, B.bytes, hml, findClass_of_methodNamed B.named, atoms_spec (ws := ws) B.pre⟩, hK, G, hL⟩ B.returns B.notSynchronized s.heap [] _ hP va_S.rf hl
section VR
variable {p : Program} {l : Launch} {e : Env} {R : Room} {s : State} {m : MethodId} {args : Array Value} {below : List Frame} {meth : Method} {c : Code} {Q : State → Prop} {D : va_G} {A : Nat → Prop} {ad : Nat → Nat} {ns : List Nat} {ce : Mm → Nat → va_E} {nL : Nat} {M : Mm} {lv lv' : List (Nat × Value)} {pc : Nat} {st rest : List Value} {cc : ByteArray} {own : String} {Ts : List Cond} {tys : List (ClassId × FieldType)}
theorem V_iconst (C : Cx p s m args c cc nL own Ts D tys A ad ns ce) {n : Int} {v : Int32} (hd : decode cc pc = .ok (.iconst n, 1)) (hv : Int32.ofInt n = v) (k : V p l e R s m args below meth c Q D A ad ns ce nL M lv (pc + 1) (.int v :: st)) : V p l e R s m args below meth c Q D A ad ns ce nL M lv (pc) (st) := fun H locs ls hP hS hl => lv_iconst C.1.1 C.1.2.1 hd hv (k H locs ls hP hS hl)
theorem V_bipush (C : Cx p s m args c cc nL own Ts D tys A ad ns ce) {n : Int} {v : Int32} (hd : decode cc pc = .ok (.bipush n, 2)) (hv : (Int8.ofInt n).toInt32 = v) (k : V p l e R s m args below meth c Q D A ad ns ce nL M lv (pc + 2) (.int v :: st)) : V p l e R s m args below meth c Q D A ad ns ce nL M lv (pc) (st) := fun H locs ls hP hS hl => lv_bipush C.1.1 C.1.2.1 hd hv (k H locs ls hP hS hl)
theorem V_sipush (C : Cx p s m args c cc nL own Ts D tys A ad ns ce) {n : Int} {v : Int32} (hd : decode cc pc = .ok (.sipush n, 3)) (hv : (Int16.ofInt n).toInt32 = v) (k : V p l e R s m args below meth c Q D A ad ns ce nL M lv (pc + 3) (.int v :: st)) : V p l e R s m args below meth c Q D A ad ns ce nL M lv (pc) (st) := fun H locs ls hP hS hl => lv_sipush C.1.1 C.1.2.1 hd hv (k H locs ls hP hS hl)
theorem V_lconst (C : Cx p s m args c cc nL own Ts D tys A ad ns ce) {n : Fin 2} {v : Int64} (hd : decode cc pc = .ok (.lconst n, 1)) (hv : Int64.ofNat (n : Nat) = v) (k : V p l e R s m args below meth c Q D A ad ns ce nL M lv (pc + 1) (.long v :: st)) : V p l e R s m args below meth c Q D A ad ns ce nL M lv (pc) (st) := fun H locs ls hP hS hl => lv_lconst C.1.1 C.1.2.1 hd hv (k H locs ls hP hS hl)
theorem V_ldc (C : Cx p s m args c cc nL own Ts D tys A ad ns ce) {index : Nat} {v : Int32} (hd : decode cc pc = .ok (.ldc index, 2)) (hc : Jvm.Cond.constant own index v ∈ Ts) (k : V p l e R s m args below meth c Q D A ad ns ce nL M lv (pc + 2) (.int v :: st)) : V p l e R s m args below meth c Q D A ad ns ce nL M lv (pc) (st) := fun H locs ls hP hS hl => lv_ldc C.1.1 C.1.2.1 C.1.2.2.2.1 (C.1.2.2.2.2 _ hc) hd (k H locs ls hP hS hl)
theorem V_ldc2 (C : Cx p s m args c cc nL own Ts D tys A ad ns ce) {index : Nat} {v : Int64} (hd : decode cc pc = .ok (.ldc2_w index, 3)) (hc : Jvm.Cond.constantLong own index v ∈ Ts) (k : V p l e R s m args below meth c Q D A ad ns ce nL M lv (pc + 3) (.long v :: st)) : V p l e R s m args below meth c Q D A ad ns ce nL M lv (pc) (st) := fun H locs ls hP hS hl => lv_ldc2 C.1.1 C.1.2.1 C.1.2.2.2.1 (C.1.2.2.2.2 _ hc) hd (k H locs ls hP hS hl)
theorem V_iload_n (C : Cx p s m args c cc nL own Ts D tys A ad ns ce) {k0 : Fin 4} {x : Int32} (j : Nat) (hd : decode cc pc = .ok (.iload_n k0, 1)) (hj : lv[j]? = some ((k0 : Nat), .int x)) (k : V p l e R s m args below meth c Q D A ad ns ce nL M lv (pc + 1) (.int x :: st)) : V p l e R s m args below meth c Q D A ad ns ce nL M lv (pc) (st) := fun H locs ls hP hS hl => lv_iload_n C.1.1 C.1.2.1 hd rfl (lv_at hl j hj) (k H locs ls hP hS hl)
theorem V_iload (C : Cx p s m args c cc nL own Ts D tys A ad ns ce) {i : Nat} {x : Int32} (j : Nat) (hd : decode cc pc = .ok (.iload i, 2)) (hj : lv[j]? = some (i, .int x)) (k : V p l e R s m args below meth c Q D A ad ns ce nL M lv (pc + 2) (.int x :: st)) : V p l e R s m args below meth c Q D A ad ns ce nL M lv (pc) (st) := fun H locs ls hP hS hl => lv_iload C.1.1 C.1.2.1 hd (lv_at hl j hj) (k H locs ls hP hS hl)
theorem V_istore_n (C : Cx p s m args c cc nL own Ts D tys A ad ns ce) {i : Nat} {x : Int32} {k0 : Fin 4} (hd : decode cc pc = .ok (.istore_n k0, 1)) (hi : (k0 : Nat) = i) (hn : i < nL) (hl' : (i, Value.int x) :: lv.filter (fun q => !(q.1 == i) && !(q.1 + 1 == i && q.2.category == 2)) = lv') (k : V p l e R s m args below meth c Q D A ad ns ce nL M lv' (pc + 1) (st)) : V p l e R s m args below meth c Q D A ad ns ce nL M lv (pc) (.int x :: st) := fun H locs ls hP hS hl => lv_istore_n C.1.1 C.1.2.1 hd hi hl hn hl' (fun ls' h' => k H locs ls' hP hS h')
theorem V_istore (C : Cx p s m args c cc nL own Ts D tys A ad ns ce) {i : Nat} {x : Int32} (hd : decode cc pc = .ok (.istore i, 2))  (hn : i < nL) (hl' : (i, Value.int x) :: lv.filter (fun q => !(q.1 == i) && !(q.1 + 1 == i && q.2.category == 2)) = lv') (k : V p l e R s m args below meth c Q D A ad ns ce nL M lv' (pc + 2) (st)) : V p l e R s m args below meth c Q D A ad ns ce nL M lv (pc) (.int x :: st) := fun H locs ls hP hS hl => lv_istore C.1.1 C.1.2.1 hd  hl hn hl' (fun ls' h' => k H locs ls' hP hS h')
theorem V_lload_n (C : Cx p s m args c cc nL own Ts D tys A ad ns ce) {k0 : Fin 4} {x : Int64} (j : Nat) (hd : decode cc pc = .ok (.lload_n k0, 1)) (hj : lv[j]? = some ((k0 : Nat), .long x)) (k : V p l e R s m args below meth c Q D A ad ns ce nL M lv (pc + 1) (.long x :: st)) : V p l e R s m args below meth c Q D A ad ns ce nL M lv (pc) (st) := fun H locs ls hP hS hl => lv_lload_n C.1.1 C.1.2.1 hd rfl (lv_at hl j hj) (k H locs ls hP hS hl)
theorem V_lload (C : Cx p s m args c cc nL own Ts D tys A ad ns ce) {i : Nat} {x : Int64} (j : Nat) (hd : decode cc pc = .ok (.lload i, 2)) (hj : lv[j]? = some (i, .long x)) (k : V p l e R s m args below meth c Q D A ad ns ce nL M lv (pc + 2) (.long x :: st)) : V p l e R s m args below meth c Q D A ad ns ce nL M lv (pc) (st) := fun H locs ls hP hS hl => lv_lload C.1.1 C.1.2.1 hd (lv_at hl j hj) (k H locs ls hP hS hl)
theorem V_lstore_n (C : Cx p s m args c cc nL own Ts D tys A ad ns ce) {i : Nat} {x : Int64} {k0 : Fin 4} (hd : decode cc pc = .ok (.lstore_n k0, 1)) (hi : (k0 : Nat) = i) (hn : i + 1 < nL) (hl' : (i, Value.long x) :: lv.filter (fun q => !(q.1 == i) && (!(q.1 == i + 1) && !(q.1 + 1 == i && q.2.category == 2))) = lv') (k : V p l e R s m args below meth c Q D A ad ns ce nL M lv' (pc + 1) (st)) : V p l e R s m args below meth c Q D A ad ns ce nL M lv (pc) (.long x :: st) := fun H locs ls hP hS hl => lv_lstore_n C.1.1 C.1.2.1 hd hi hl hn hl' (fun ls' h' => k H locs ls' hP hS h')
theorem V_lstore (C : Cx p s m args c cc nL own Ts D tys A ad ns ce) {i : Nat} {x : Int64} (hd : decode cc pc = .ok (.lstore i, 2))  (hn : i + 1 < nL) (hl' : (i, Value.long x) :: lv.filter (fun q => !(q.1 == i) && (!(q.1 == i + 1) && !(q.1 + 1 == i && q.2.category == 2))) = lv') (k : V p l e R s m args below meth c Q D A ad ns ce nL M lv' (pc + 2) (st)) : V p l e R s m args below meth c Q D A ad ns ce nL M lv (pc) (.long x :: st) := fun H locs ls hP hS hl => lv_lstore C.1.1 C.1.2.1 hd  hl hn hl' (fun ls' h' => k H locs ls' hP hS h')
theorem V_aload_n (C : Cx p s m args c cc nL own Ts D tys A ad ns ce) {k0 : Fin 4} {x : Nat} (j : Nat) (hd : decode cc pc = .ok (.aload_n k0, 1)) (hj : lv[j]? = some ((k0 : Nat), .ref x)) (k : V p l e R s m args below meth c Q D A ad ns ce nL M lv (pc + 1) (.ref x :: st)) : V p l e R s m args below meth c Q D A ad ns ce nL M lv (pc) (st) := fun H locs ls hP hS hl => lv_aload_n C.1.1 C.1.2.1 hd rfl (lv_at hl j hj) (k H locs ls hP hS hl)
theorem V_aload (C : Cx p s m args c cc nL own Ts D tys A ad ns ce) {i : Nat} {x : Nat} (j : Nat) (hd : decode cc pc = .ok (.aload i, 2)) (hj : lv[j]? = some (i, .ref x)) (k : V p l e R s m args below meth c Q D A ad ns ce nL M lv (pc + 2) (.ref x :: st)) : V p l e R s m args below meth c Q D A ad ns ce nL M lv (pc) (st) := fun H locs ls hP hS hl => lv_aload C.1.1 C.1.2.1 hd (lv_at hl j hj) (k H locs ls hP hS hl)
theorem V_astore_n (C : Cx p s m args c cc nL own Ts D tys A ad ns ce) {i : Nat} {x : Nat} {k0 : Fin 4} (hd : decode cc pc = .ok (.astore_n k0, 1)) (hi : (k0 : Nat) = i) (hn : i < nL) (hl' : (i, Value.ref x) :: lv.filter (fun q => !(q.1 == i) && !(q.1 + 1 == i && q.2.category == 2)) = lv') (k : V p l e R s m args below meth c Q D A ad ns ce nL M lv' (pc + 1) (st)) : V p l e R s m args below meth c Q D A ad ns ce nL M lv (pc) (.ref x :: st) := fun H locs ls hP hS hl => lv_astore_n C.1.1 C.1.2.1 hd hi hl hn hl' (fun ls' h' => k H locs ls' hP hS h')
theorem V_astore (C : Cx p s m args c cc nL own Ts D tys A ad ns ce) {i : Nat} {x : Nat} (hd : decode cc pc = .ok (.astore i, 2))  (hn : i < nL) (hl' : (i, Value.ref x) :: lv.filter (fun q => !(q.1 == i) && !(q.1 + 1 == i && q.2.category == 2)) = lv') (k : V p l e R s m args below meth c Q D A ad ns ce nL M lv' (pc + 2) (st)) : V p l e R s m args below meth c Q D A ad ns ce nL M lv (pc) (.ref x :: st) := fun H locs ls hP hS hl => lv_astore C.1.1 C.1.2.1 hd  hl hn hl' (fun ls' h' => k H locs ls' hP hS h')
theorem V_iinc (C : Cx p s m args c cc nL own Ts D tys A ad ns ce) {i : Nat} {n : Int} {x v : Int32} (j : Nat) (hd : decode cc pc = .ok (.iinc i n, 3)) (hj : lv[j]? = some (i, .int x)) (hv : x + Int32.ofInt n = v) (hn : i < nL) (hl' : (i, Value.int v) :: lv.filter (fun q => !(q.1 == i) && !(q.1 + 1 == i && q.2.category == 2)) = lv') (k : V p l e R s m args below meth c Q D A ad ns ce nL M lv' (pc + 3) (st)) : V p l e R s m args below meth c Q D A ad ns ce nL M lv (pc) (st) := fun H locs ls hP hS hl => lv_iinc C.1.1 C.1.2.1 hd hl hj hv hn hl' (fun ls' h' => k H locs ls' hP hS h')
theorem V_iadd (C : Cx p s m args c cc nL own Ts D tys A ad ns ce) {x y : Int32} (hd : decode cc pc = .ok (.iadd, 1))  (k : V p l e R s m args below meth c Q D A ad ns ce nL M lv (pc + 1) (.int (x + y) :: st)) : V p l e R s m args below meth c Q D A ad ns ce nL M lv (pc) (.int y :: .int x :: st) := fun H locs ls hP hS hl => lv_iadd C.1.1 C.1.2.1 hd (k H locs ls hP hS hl)
theorem V_isub (C : Cx p s m args c cc nL own Ts D tys A ad ns ce) {x y : Int32} (hd : decode cc pc = .ok (.isub, 1))  (k : V p l e R s m args below meth c Q D A ad ns ce nL M lv (pc + 1) (.int (x - y) :: st)) : V p l e R s m args below meth c Q D A ad ns ce nL M lv (pc) (.int y :: .int x :: st) := fun H locs ls hP hS hl => lv_isub C.1.1 C.1.2.1 hd (k H locs ls hP hS hl)
theorem V_imul (C : Cx p s m args c cc nL own Ts D tys A ad ns ce) {x y : Int32} (hd : decode cc pc = .ok (.imul, 1))  (k : V p l e R s m args below meth c Q D A ad ns ce nL M lv (pc + 1) (.int (x * y) :: st)) : V p l e R s m args below meth c Q D A ad ns ce nL M lv (pc) (.int y :: .int x :: st) := fun H locs ls hP hS hl => lv_imul C.1.1 C.1.2.1 hd (k H locs ls hP hS hl)
theorem V_iand (C : Cx p s m args c cc nL own Ts D tys A ad ns ce) {x y : Int32} (hd : decode cc pc = .ok (.iand, 1))  (k : V p l e R s m args below meth c Q D A ad ns ce nL M lv (pc + 1) (.int (x &&& y) :: st)) : V p l e R s m args below meth c Q D A ad ns ce nL M lv (pc) (.int y :: .int x :: st) := fun H locs ls hP hS hl => lv_iand C.1.1 C.1.2.1 hd (k H locs ls hP hS hl)
theorem V_ior (C : Cx p s m args c cc nL own Ts D tys A ad ns ce) {x y : Int32} (hd : decode cc pc = .ok (.ior, 1))  (k : V p l e R s m args below meth c Q D A ad ns ce nL M lv (pc + 1) (.int (x ||| y) :: st)) : V p l e R s m args below meth c Q D A ad ns ce nL M lv (pc) (.int y :: .int x :: st) := fun H locs ls hP hS hl => lv_ior C.1.1 C.1.2.1 hd (k H locs ls hP hS hl)
theorem V_ishl (C : Cx p s m args c cc nL own Ts D tys A ad ns ce) {x y : Int32} (hd : decode cc pc = .ok (.ishl, 1))  (k : V p l e R s m args below meth c Q D A ad ns ce nL M lv (pc + 1) (.int (x <<< (y &&& 31)) :: st)) : V p l e R s m args below meth c Q D A ad ns ce nL M lv (pc) (.int y :: .int x :: st) := fun H locs ls hP hS hl => lv_ishl C.1.1 C.1.2.1 hd (k H locs ls hP hS hl)
theorem V_ishr (C : Cx p s m args c cc nL own Ts D tys A ad ns ce) {x y : Int32} (hd : decode cc pc = .ok (.ishr, 1))  (k : V p l e R s m args below meth c Q D A ad ns ce nL M lv (pc + 1) (.int (x >>> (y &&& 31)) :: st)) : V p l e R s m args below meth c Q D A ad ns ce nL M lv (pc) (.int y :: .int x :: st) := fun H locs ls hP hS hl => lv_ishr C.1.1 C.1.2.1 hd (k H locs ls hP hS hl)
theorem V_idiv (C : Cx p s m args c cc nL own Ts D tys A ad ns ce) {x y : Int32} (hd : decode cc pc = .ok (.idiv, 1)) (hne : ¬ y = 0) (k : V p l e R s m args below meth c Q D A ad ns ce nL M lv (pc + 1) (.int (x / y) :: st)) : V p l e R s m args below meth c Q D A ad ns ce nL M lv (pc) (.int y :: .int x :: st) := fun H locs ls hP hS hl => lv_idiv C.1.1 C.1.2.1 hd hne (k H locs ls hP hS hl)
theorem V_irem (C : Cx p s m args c cc nL own Ts D tys A ad ns ce) {x y : Int32} (hd : decode cc pc = .ok (.irem, 1)) (hne : ¬ y = 0) (k : V p l e R s m args below meth c Q D A ad ns ce nL M lv (pc + 1) (.int (x - x / y * y) :: st)) : V p l e R s m args below meth c Q D A ad ns ce nL M lv (pc) (.int y :: .int x :: st) := fun H locs ls hP hS hl => lv_irem C.1.1 C.1.2.1 hd hne (k H locs ls hP hS hl)
theorem V_ladd (C : Cx p s m args c cc nL own Ts D tys A ad ns ce) {x y : Int64} (hd : decode cc pc = .ok (.ladd, 1))  (k : V p l e R s m args below meth c Q D A ad ns ce nL M lv (pc + 1) (.long (x + y) :: st)) : V p l e R s m args below meth c Q D A ad ns ce nL M lv (pc) (.long y :: .long x :: st) := fun H locs ls hP hS hl => lv_ladd C.1.1 C.1.2.1 hd (k H locs ls hP hS hl)
theorem V_lsub (C : Cx p s m args c cc nL own Ts D tys A ad ns ce) {x y : Int64} (hd : decode cc pc = .ok (.lsub, 1))  (k : V p l e R s m args below meth c Q D A ad ns ce nL M lv (pc + 1) (.long (x - y) :: st)) : V p l e R s m args below meth c Q D A ad ns ce nL M lv (pc) (.long y :: .long x :: st) := fun H locs ls hP hS hl => lv_lsub C.1.1 C.1.2.1 hd (k H locs ls hP hS hl)
theorem V_lmul (C : Cx p s m args c cc nL own Ts D tys A ad ns ce) {x y : Int64} (hd : decode cc pc = .ok (.lmul, 1))  (k : V p l e R s m args below meth c Q D A ad ns ce nL M lv (pc + 1) (.long (x * y) :: st)) : V p l e R s m args below meth c Q D A ad ns ce nL M lv (pc) (.long y :: .long x :: st) := fun H locs ls hP hS hl => lv_lmul C.1.1 C.1.2.1 hd (k H locs ls hP hS hl)
theorem V_land (C : Cx p s m args c cc nL own Ts D tys A ad ns ce) {x y : Int64} (hd : decode cc pc = .ok (.land, 1))  (k : V p l e R s m args below meth c Q D A ad ns ce nL M lv (pc + 1) (.long (x &&& y) :: st)) : V p l e R s m args below meth c Q D A ad ns ce nL M lv (pc) (.long y :: .long x :: st) := fun H locs ls hP hS hl => lv_land C.1.1 C.1.2.1 hd (k H locs ls hP hS hl)
theorem V_ldiv (C : Cx p s m args c cc nL own Ts D tys A ad ns ce) {x y : Int64} (hd : decode cc pc = .ok (.ldiv, 1)) (hne : ¬ y = 0) (k : V p l e R s m args below meth c Q D A ad ns ce nL M lv (pc + 1) (.long (x / y) :: st)) : V p l e R s m args below meth c Q D A ad ns ce nL M lv (pc) (.long y :: .long x :: st) := fun H locs ls hP hS hl => lv_ldiv C.1.1 C.1.2.1 hd hne (k H locs ls hP hS hl)
theorem V_lrem (C : Cx p s m args c cc nL own Ts D tys A ad ns ce) {x y : Int64} (hd : decode cc pc = .ok (.lrem, 1)) (hne : ¬ y = 0) (k : V p l e R s m args below meth c Q D A ad ns ce nL M lv (pc + 1) (.long (x - x / y * y) :: st)) : V p l e R s m args below meth c Q D A ad ns ce nL M lv (pc) (.long y :: .long x :: st) := fun H locs ls hP hS hl => lv_lrem C.1.1 C.1.2.1 hd hne (k H locs ls hP hS hl)
theorem V_i2l (C : Cx p s m args c cc nL own Ts D tys A ad ns ce) {x : Int32} (hd : decode cc pc = .ok (.i2l, 1))  (k : V p l e R s m args below meth c Q D A ad ns ce nL M lv (pc + 1) (.long x.toInt64 :: st)) : V p l e R s m args below meth c Q D A ad ns ce nL M lv (pc) (.int x :: st) := fun H locs ls hP hS hl => lv_i2l C.1.1 C.1.2.1 hd rfl (k H locs ls hP hS hl)
theorem V_l2i (C : Cx p s m args c cc nL own Ts D tys A ad ns ce) {x : Int64} (hd : decode cc pc = .ok (.l2i, 1))  (k : V p l e R s m args below meth c Q D A ad ns ce nL M lv (pc + 1) (.int x.toInt32 :: st)) : V p l e R s m args below meth c Q D A ad ns ce nL M lv (pc) (.long x :: st) := fun H locs ls hP hS hl => lv_l2i C.1.1 C.1.2.1 hd rfl (k H locs ls hP hS hl)
theorem V_i2b (C : Cx p s m args c cc nL own Ts D tys A ad ns ce) {x : Int32} (hd : decode cc pc = .ok (.i2b, 1))  (k : V p l e R s m args below meth c Q D A ad ns ce nL M lv (pc + 1) (.int x.toInt8.toInt32 :: st)) : V p l e R s m args below meth c Q D A ad ns ce nL M lv (pc) (.int x :: st) := fun H locs ls hP hS hl => lv_i2b C.1.1 C.1.2.1 hd rfl (k H locs ls hP hS hl)
theorem V_i2c (C : Cx p s m args c cc nL own Ts D tys A ad ns ce) {x : Int32} (hd : decode cc pc = .ok (.i2c, 1))  (k : V p l e R s m args below meth c Q D A ad ns ce nL M lv (pc + 1) (.int (x.toUInt32 % 65536).toInt32 :: st)) : V p l e R s m args below meth c Q D A ad ns ce nL M lv (pc) (.int x :: st) := fun H locs ls hP hS hl => lv_i2c C.1.1 C.1.2.1 hd rfl (k H locs ls hP hS hl)
theorem V_lcmp (C : Cx p s m args c cc nL own Ts D tys A ad ns ce) {x y : Int64} (hd : decode cc pc = .ok (.lcmp, 1))  (k : V p l e R s m args below meth c Q D A ad ns ce nL M lv (pc + 1) (.int (lg_cmp x y) :: st)) : V p l e R s m args below meth c Q D A ad ns ce nL M lv (pc) (.long y :: .long x :: st) := fun H locs ls hP hS hl => W.lcmp C.1.1 C.1.2.1 hd (k H locs ls hP hS hl)
theorem V_dup (C : Cx p s m args c cc nL own Ts D tys A ad ns ce) {v : Value} (hd : decode cc pc = .ok (.dup, 1)) (hv : v.category = 1) (k : V p l e R s m args below meth c Q D A ad ns ce nL M lv (pc + 1) (v :: v :: st)) : V p l e R s m args below meth c Q D A ad ns ce nL M lv (pc) (v :: st) := fun H locs ls hP hS hl => lv_dup C.1.1 C.1.2.1 hd hv (k H locs ls hP hS hl)
theorem V_pop (C : Cx p s m args c cc nL own Ts D tys A ad ns ce) {v : Value} (hd : decode cc pc = .ok (.pop, 1)) (hv : v.category = 1) (k : V p l e R s m args below meth c Q D A ad ns ce nL M lv (pc + 1) (st)) : V p l e R s m args below meth c Q D A ad ns ce nL M lv (pc) (v :: st) := fun H locs ls hP hS hl => lv_pop C.1.1 C.1.2.1 hd hv (k H locs ls hP hS hl)
theorem V_dup2 (C : Cx p s m args c cc nL own Ts D tys A ad ns ce) {v w : Value} (hd : decode cc pc = .ok (.dup2, 1)) (hv : v.category = 1) (hw : w.category = 1) (k : V p l e R s m args below meth c Q D A ad ns ce nL M lv (pc + 1) (v :: w :: v :: w :: st)) : V p l e R s m args below meth c Q D A ad ns ce nL M lv (pc) (v :: w :: st) := fun H locs ls hP hS hl => lv_dup2_11 C.1.1 C.1.2.1 hd hv hw (k H locs ls hP hS hl)
theorem V_if_eq (C : Cx p s m args c cc nL own Ts D tys A ad ns ce) {x : Int32} {off : Int} (tgt : Nat) (hd : decode cc pc = .ok (.ifCond .eq off, 3)) (ht : (pc : Int) + off = (tgt : Int)) (kt : x = 0 → V p l e R s m args below meth c Q D A ad ns ce nL M lv (tgt) (st)) (kf : ¬ x = 0 → V p l e R s m args below meth c Q D A ad ns ce nL M lv (pc + 3) (st)) : V p l e R s m args below meth c Q D A ad ns ce nL M lv (pc) (.int x :: st) := fun H locs ls hP hS hl => lv_if_eq C.1.1 C.1.2.1 hd ht (fun q => kt q H locs ls hP hS hl) (fun q => kf q H locs ls hP hS hl)
theorem V_icmp_eq (C : Cx p s m args c cc nL own Ts D tys A ad ns ce) {x y : Int32} {off : Int} (tgt : Nat) (hd : decode cc pc = .ok (.if_icmp .eq off, 3)) (ht : (pc : Int) + off = (tgt : Int)) (kt : x = y → V p l e R s m args below meth c Q D A ad ns ce nL M lv (tgt) (st)) (kf : ¬ x = y → V p l e R s m args below meth c Q D A ad ns ce nL M lv (pc + 3) (st)) : V p l e R s m args below meth c Q D A ad ns ce nL M lv (pc) (.int y :: .int x :: st) := fun H locs ls hP hS hl => lv_icmp_eq C.1.1 C.1.2.1 hd ht (fun q => kt q H locs ls hP hS hl) (fun q => kf q H locs ls hP hS hl)
theorem V_if_ne (C : Cx p s m args c cc nL own Ts D tys A ad ns ce) {x : Int32} {off : Int} (tgt : Nat) (hd : decode cc pc = .ok (.ifCond .ne off, 3)) (ht : (pc : Int) + off = (tgt : Int)) (kt : ¬ x = 0 → V p l e R s m args below meth c Q D A ad ns ce nL M lv (tgt) (st)) (kf : x = 0 → V p l e R s m args below meth c Q D A ad ns ce nL M lv (pc + 3) (st)) : V p l e R s m args below meth c Q D A ad ns ce nL M lv (pc) (.int x :: st) := fun H locs ls hP hS hl => lv_if_ne C.1.1 C.1.2.1 hd ht (fun q => kt q H locs ls hP hS hl) (fun q => kf q H locs ls hP hS hl)
theorem V_icmp_ne (C : Cx p s m args c cc nL own Ts D tys A ad ns ce) {x y : Int32} {off : Int} (tgt : Nat) (hd : decode cc pc = .ok (.if_icmp .ne off, 3)) (ht : (pc : Int) + off = (tgt : Int)) (kt : ¬ x = y → V p l e R s m args below meth c Q D A ad ns ce nL M lv (tgt) (st)) (kf : x = y → V p l e R s m args below meth c Q D A ad ns ce nL M lv (pc + 3) (st)) : V p l e R s m args below meth c Q D A ad ns ce nL M lv (pc) (.int y :: .int x :: st) := fun H locs ls hP hS hl => lv_icmp_ne C.1.1 C.1.2.1 hd ht (fun q => kt q H locs ls hP hS hl) (fun q => kf q H locs ls hP hS hl)
theorem V_if_lt (C : Cx p s m args c cc nL own Ts D tys A ad ns ce) {x : Int32} {off : Int} (tgt : Nat) (hd : decode cc pc = .ok (.ifCond .lt off, 3)) (ht : (pc : Int) + off = (tgt : Int)) (kt : x < 0 → V p l e R s m args below meth c Q D A ad ns ce nL M lv (tgt) (st)) (kf : ¬ x < 0 → V p l e R s m args below meth c Q D A ad ns ce nL M lv (pc + 3) (st)) : V p l e R s m args below meth c Q D A ad ns ce nL M lv (pc) (.int x :: st) := fun H locs ls hP hS hl => lv_if_lt C.1.1 C.1.2.1 hd ht (fun q => kt q H locs ls hP hS hl) (fun q => kf q H locs ls hP hS hl)
theorem V_icmp_lt (C : Cx p s m args c cc nL own Ts D tys A ad ns ce) {x y : Int32} {off : Int} (tgt : Nat) (hd : decode cc pc = .ok (.if_icmp .lt off, 3)) (ht : (pc : Int) + off = (tgt : Int)) (kt : x < y → V p l e R s m args below meth c Q D A ad ns ce nL M lv (tgt) (st)) (kf : ¬ x < y → V p l e R s m args below meth c Q D A ad ns ce nL M lv (pc + 3) (st)) : V p l e R s m args below meth c Q D A ad ns ce nL M lv (pc) (.int y :: .int x :: st) := fun H locs ls hP hS hl => lv_icmp_lt C.1.1 C.1.2.1 hd ht (fun q => kt q H locs ls hP hS hl) (fun q => kf q H locs ls hP hS hl)
theorem V_if_ge (C : Cx p s m args c cc nL own Ts D tys A ad ns ce) {x : Int32} {off : Int} (tgt : Nat) (hd : decode cc pc = .ok (.ifCond .ge off, 3)) (ht : (pc : Int) + off = (tgt : Int)) (kt : 0 ≤ x → V p l e R s m args below meth c Q D A ad ns ce nL M lv (tgt) (st)) (kf : ¬ 0 ≤ x → V p l e R s m args below meth c Q D A ad ns ce nL M lv (pc + 3) (st)) : V p l e R s m args below meth c Q D A ad ns ce nL M lv (pc) (.int x :: st) := fun H locs ls hP hS hl => lv_if_ge C.1.1 C.1.2.1 hd ht (fun q => kt q H locs ls hP hS hl) (fun q => kf q H locs ls hP hS hl)
theorem V_icmp_ge (C : Cx p s m args c cc nL own Ts D tys A ad ns ce) {x y : Int32} {off : Int} (tgt : Nat) (hd : decode cc pc = .ok (.if_icmp .ge off, 3)) (ht : (pc : Int) + off = (tgt : Int)) (kt : y ≤ x → V p l e R s m args below meth c Q D A ad ns ce nL M lv (tgt) (st)) (kf : ¬ y ≤ x → V p l e R s m args below meth c Q D A ad ns ce nL M lv (pc + 3) (st)) : V p l e R s m args below meth c Q D A ad ns ce nL M lv (pc) (.int y :: .int x :: st) := fun H locs ls hP hS hl => lv_icmp_ge C.1.1 C.1.2.1 hd ht (fun q => kt q H locs ls hP hS hl) (fun q => kf q H locs ls hP hS hl)
theorem V_if_gt (C : Cx p s m args c cc nL own Ts D tys A ad ns ce) {x : Int32} {off : Int} (tgt : Nat) (hd : decode cc pc = .ok (.ifCond .gt off, 3)) (ht : (pc : Int) + off = (tgt : Int)) (kt : 0 < x → V p l e R s m args below meth c Q D A ad ns ce nL M lv (tgt) (st)) (kf : ¬ 0 < x → V p l e R s m args below meth c Q D A ad ns ce nL M lv (pc + 3) (st)) : V p l e R s m args below meth c Q D A ad ns ce nL M lv (pc) (.int x :: st) := fun H locs ls hP hS hl => lv_if_gt C.1.1 C.1.2.1 hd ht (fun q => kt q H locs ls hP hS hl) (fun q => kf q H locs ls hP hS hl)
theorem V_icmp_gt (C : Cx p s m args c cc nL own Ts D tys A ad ns ce) {x y : Int32} {off : Int} (tgt : Nat) (hd : decode cc pc = .ok (.if_icmp .gt off, 3)) (ht : (pc : Int) + off = (tgt : Int)) (kt : y < x → V p l e R s m args below meth c Q D A ad ns ce nL M lv (tgt) (st)) (kf : ¬ y < x → V p l e R s m args below meth c Q D A ad ns ce nL M lv (pc + 3) (st)) : V p l e R s m args below meth c Q D A ad ns ce nL M lv (pc) (.int y :: .int x :: st) := fun H locs ls hP hS hl => lv_icmp_gt C.1.1 C.1.2.1 hd ht (fun q => kt q H locs ls hP hS hl) (fun q => kf q H locs ls hP hS hl)
theorem V_if_le (C : Cx p s m args c cc nL own Ts D tys A ad ns ce) {x : Int32} {off : Int} (tgt : Nat) (hd : decode cc pc = .ok (.ifCond .le off, 3)) (ht : (pc : Int) + off = (tgt : Int)) (kt : x ≤ 0 → V p l e R s m args below meth c Q D A ad ns ce nL M lv (tgt) (st)) (kf : ¬ x ≤ 0 → V p l e R s m args below meth c Q D A ad ns ce nL M lv (pc + 3) (st)) : V p l e R s m args below meth c Q D A ad ns ce nL M lv (pc) (.int x :: st) := fun H locs ls hP hS hl => lv_if_le C.1.1 C.1.2.1 hd ht (fun q => kt q H locs ls hP hS hl) (fun q => kf q H locs ls hP hS hl)
theorem V_icmp_le (C : Cx p s m args c cc nL own Ts D tys A ad ns ce) {x y : Int32} {off : Int} (tgt : Nat) (hd : decode cc pc = .ok (.if_icmp .le off, 3)) (ht : (pc : Int) + off = (tgt : Int)) (kt : x ≤ y → V p l e R s m args below meth c Q D A ad ns ce nL M lv (tgt) (st)) (kf : ¬ x ≤ y → V p l e R s m args below meth c Q D A ad ns ce nL M lv (pc + 3) (st)) : V p l e R s m args below meth c Q D A ad ns ce nL M lv (pc) (.int y :: .int x :: st) := fun H locs ls hP hS hl => lv_icmp_le C.1.1 C.1.2.1 hd ht (fun q => kt q H locs ls hP hS hl) (fun q => kf q H locs ls hP hS hl)
theorem V_goto (C : Cx p s m args c cc nL own Ts D tys A ad ns ce) {off : Int} (tgt : Nat) (hd : decode cc pc = .ok (.goto off, 3)) (ht : (pc : Int) + off = (tgt : Int)) (k : V p l e R s m args below meth c Q D A ad ns ce nL M lv (tgt) (st)) : V p l e R s m args below meth c Q D A ad ns ce nL M lv (pc) (st) := fun H locs ls hP hS hl => lv_goto C.1.1 C.1.2.1 hd ht (k H locs ls hP hS hl)
theorem V_tswOut (C : Cx p s m args c cc nL own Ts D tys A ad ns ce) {dflt lo hi : Int} {offs : Array Int} {len : Nat} {x : Int32} (tgt : Nat) (hd : decode cc pc = .ok (.tableswitch dflt lo hi offs, len)) (h : x.toInt < lo ∨ hi < x.toInt) (ht : (pc : Int) + dflt = (tgt : Int)) (k : V p l e R s m args below meth c Q D A ad ns ce nL M lv (tgt) (st)) : V p l e R s m args below meth c Q D A ad ns ce nL M lv (pc) (.int x :: st) := fun H locs ls hP hS hl => lv_tableOut C.1.1 C.1.2.1 hd h ht (k H locs ls hP hS hl)
theorem V_tswIn (C : Cx p s m args c cc nL own Ts D tys A ad ns ce) {dflt lo hi off : Int} {offs : Array Int} {len : Nat} {x : Int32} (tgt : Nat) (hd : decode cc pc = .ok (.tableswitch dflt lo hi offs, len)) (h1 : ¬ x.toInt < lo) (h2 : ¬ hi < x.toInt) (ho : offs[(x.toInt - lo).toNat]? = some off) (ht : (pc : Int) + off = (tgt : Int)) (k : V p l e R s m args below meth c Q D A ad ns ce nL M lv (tgt) (st)) : V p l e R s m args below meth c Q D A ad ns ce nL M lv (pc) (.int x :: st) := fun H locs ls hP hS hl => lv_tableIn C.1.1 C.1.2.1 hd h1 h2 ho ht (k H locs ls hP hS hl)
theorem V_lsw (C : Cx p s m args c cc nL own Ts D tys A ad ns ce) {dflt : Int} {ps : Array (Int × Int)} {len : Nat} {x : Int32} {off : Int} (tgt : Nat) (hd : decode cc pc = .ok (.lookupswitch dflt ps, len)) (hp : (ps.toList.zip (ps.toList.drop 1)).all (fun (a, next) => a.1 < next.1) = true) (ho : Op.lookupswitch.offset ps.toList dflt x.toInt = off) (ht : (pc : Int) + off = (tgt : Int)) (k : V p l e R s m args below meth c Q D A ad ns ce nL M lv (tgt) (st)) : V p l e R s m args below meth c Q D A ad ns ce nL M lv (pc) (.int x :: st) := fun H locs ls hP hS hl => lv_lookup C.1.1 C.1.2.1 hd hp ho ht (k H locs ls hP hS hl)
theorem V_get (C : Cx p s m args c cc nL own Ts D tys A ad ns ce) {ci k0 index N b : Nat} {Cn ref nm ds : String} {fin : Bool} {T : u_T} {fs : List Value} (hb : b ∈ ns) (hc : vwCl[ci]? = some (Cn, T, N)) (hin : ∀ w ∈ u_ws Cn T N, w ∈ Ts) (hk : k0 < N) (hT : T k0 = (ref, nm, ds, fin)) (hlk : Cond.fieldLink own index ref nm ds ∈ Ts) {v : Value} (hce : ce M b = .inr (ci, fs)) (hv : fs[k0]? = some v) (hd : decode cc pc = .ok (.getfield index, 3)) (k : V p l e R s m args below meth c Q D A ad ns ce nL M lv (pc + 3) (v :: st)) : V p l e R s m args below meth c Q D A ad ns ce nL M lv (pc) (.ref (ad b) :: st) := by
  intro H locs ls hP hS hl
  obtain ⟨q0, hq⟩ := wl_get (ad := ad) (ce M) hb
  rw [hce] at hq
  exact va_get C.1.1 C.1.2.1 (ref := ref) C.1.2.2.2.2 hin C.1.2.2.2.1 C.2.1 hP q0 hq hc k0 hk (by rw [hT]; exact C.1.2.2.2.2 _ hlk) (by rw [hT]; exact fun _ h => h) hv hd (k H locs ls hP hS hl)
theorem V_putI (C : Cx p s m args c cc nL own Ts D tys A ad ns ce) {ci k0 index N b : Nat} {Cn ref nm ds : String} {fin : Bool} {T : u_T} {fs : List Value} (hb : b ∈ ns) (hc : vwCl[ci]? = some (Cn, T, N)) (hin : ∀ w ∈ u_ws Cn T N, w ∈ Ts) (hk : k0 < N) (hT : T k0 = (ref, nm, ds, fin)) (hlk : Cond.fieldLink own index ref nm ds ∈ Ts) {x : Int32} {ty0 : Nat → FieldType} {ty : FieldType} (hty : ∀ k, k < N → parseFieldDescriptor (T k).2.2.1 = some (ty0 k)) (hnm : ∀ a, a < N → ∀ b, b < N → a ≠ b → (T a).2.1 ≠ (T b).2.1) (hf : fin = false) (hds : parseFieldDescriptor ds = some ty) (hn : narrow ty (.int x) = .int x) (hfit : fits ty (.int x) = true) (hl0 : k0 < fs.length) (hce : ce M b = .inr (ci, fs)) (hset : ce (wI M b (upd (M.1 b) k0 x)) b = .inr (ci, fs.set k0 (.int x))) (hd : decode cc pc = .ok (.putfield index, 3)) (k : ∀ M1 : Mm, M1 = (wI M b (upd (M.1 b) k0 x)) → V p l e R s m args below meth c Q D A ad ns ce nL M1 lv (pc + 3) (st)) : V p l e R s m args below meth c Q D A ad ns ce nL M lv (pc) (.int x :: .ref (ad b) :: st) := by
  intro H locs ls hP hS hl
  obtain ⟨q0, hq⟩ := wl_get (ad := ad) (ce M) hb
  have hq1 := hq
  rw [hce] at hq
  refine va_put C.1.1 C.1.2.1 (ref := ref) C.1.2.2.2.2 hin ty0 hty hnm C.1.2.2.2.1 C.2.1 hP (C.2.2.1.D _) hS q0 hq hc k0 hk (by rw [hT]; exact C.1.2.2.2.2 _ hlk) (by rw [hT]; exact fun _ h => h) (by rw [hT]; exact hf) (by rw [hT]; exact hds) hn hfit hl0 hd (fun H1 locs1 hP1 _ hS1 => ?_)
  refine k _ rfl H1 locs1 ls ?_ hS1 hl
  rw [wl_set (g := ce (wI M b (upd (M.1 b) k0 x))) C.2.2.1 hq1 hb hset (fun j hj => C.2.2.2 _ _ j (by simp [wI, va_up, hj]) (by simp [wI, va_up, hj]))] at hP1
  exact hP1
theorem V_putJ (C : Cx p s m args c cc nL own Ts D tys A ad ns ce) {ci k0 index N b : Nat} {Cn ref nm ds : String} {fin : Bool} {T : u_T} {fs : List Value} (hb : b ∈ ns) (hc : vwCl[ci]? = some (Cn, T, N)) (hin : ∀ w ∈ u_ws Cn T N, w ∈ Ts) (hk : k0 < N) (hT : T k0 = (ref, nm, ds, fin)) (hlk : Cond.fieldLink own index ref nm ds ∈ Ts) {x : Int64} {ty0 : Nat → FieldType} {ty : FieldType} (hty : ∀ k, k < N → parseFieldDescriptor (T k).2.2.1 = some (ty0 k)) (hnm : ∀ a, a < N → ∀ b, b < N → a ≠ b → (T a).2.1 ≠ (T b).2.1) (hf : fin = false) (hds : parseFieldDescriptor ds = some ty) (hn : narrow ty (.long x) = .long x) (hfit : fits ty (.long x) = true) (hl0 : k0 < fs.length) (hce : ce M b = .inr (ci, fs)) (hset : ce (wJ M b (vp_updL (M.2 b) k0 x)) b = .inr (ci, fs.set k0 (.long x))) (hd : decode cc pc = .ok (.putfield index, 3)) (k : ∀ M1 : Mm, M1 = (wJ M b (vp_updL (M.2 b) k0 x)) → V p l e R s m args below meth c Q D A ad ns ce nL M1 lv (pc + 3) (st)) : V p l e R s m args below meth c Q D A ad ns ce nL M lv (pc) (.long x :: .ref (ad b) :: st) := by
  intro H locs ls hP hS hl
  obtain ⟨q0, hq⟩ := wl_get (ad := ad) (ce M) hb
  have hq1 := hq
  rw [hce] at hq
  refine va_put C.1.1 C.1.2.1 (ref := ref) C.1.2.2.2.2 hin ty0 hty hnm C.1.2.2.2.1 C.2.1 hP (C.2.2.1.D _) hS q0 hq hc k0 hk (by rw [hT]; exact C.1.2.2.2.2 _ hlk) (by rw [hT]; exact fun _ h => h) (by rw [hT]; exact hf) (by rw [hT]; exact hds) hn hfit hl0 hd (fun H1 locs1 hP1 _ hS1 => ?_)
  refine k _ rfl H1 locs1 ls ?_ hS1 hl
  rw [wl_set (g := ce (wJ M b (vp_updL (M.2 b) k0 x))) C.2.2.1 hq1 hb hset (fun j hj => C.2.2.2 _ _ j (by simp [wJ, va_up, hj]) (by simp [wJ, va_up, hj]))] at hP1
  exact hP1
theorem V_iald (C : Cx p s m args c cc nL own Ts D tys A ad ns ce) {n L t0 : Nat} {cA : ClassId} {i : Int32} (hb : n ∈ ns) (ha : ∀ M0 : Mm, ce M0 n = .inl (cA, L, .inl (M0.1 n))) (ht : tys[t0]? = some (cA, .int)) (hin : vp_in i L) (hd : decode cc pc = .ok (.iaload, 1)) (k : V p l e R s m args below meth c Q D A ad ns ce nL M lv (pc + 1) (.int (M.1 n i.toNatClampNeg) :: st)) : V p l e R s m args below meth c Q D A ad ns ce nL M lv (pc) (.int i :: .ref (ad n) :: st) := by
  intro H locs ls hP hS hl
  obtain ⟨q0, hq⟩ := wl_get (ad := ad) (ce M) hb
  rw [ha] at hq
  exact va_iald C.1.1 C.1.2.1 C.2.1 hP q0 t0 hq ht hin hd (k H locs ls hP hS hl)
theorem V_iast (C : Cx p s m args c cc nL own Ts D tys A ad ns ce) {n L t0 : Nat} {cA : ClassId} {i : Int32} {x : Int32} (hb : n ∈ ns) (ha : ∀ M0 : Mm, ce M0 n = .inl (cA, L, .inl (M0.1 n))) (ht : tys[t0]? = some (cA, .int)) (hin : vp_in i L) (hd : decode cc pc = .ok (.iastore, 1)) (k : ∀ M1 : Mm, M1 = (wI M n (upd (M.1 n) i.toNatClampNeg x)) → V p l e R s m args below meth c Q D A ad ns ce nL M1 lv (pc + 1) (st)) : V p l e R s m args below meth c Q D A ad ns ce nL M lv (pc) (.int x :: .int i :: .ref (ad n) :: st) := by
  intro H locs ls hP hS hl
  obtain ⟨q0, hq⟩ := wl_get (ad := ad) (ce M) hb
  have hq1 := hq
  rw [ha] at hq
  refine va_iast C.1.1 C.1.2.1 C.2.1 hP (C.2.2.1.D _) hS q0 t0 hq ht hin hd (fun H1 locs1 hP1 _ hS1 => ?_)
  refine k _ rfl H1 locs1 ls ?_ hS1 hl
  rw [wl_set (g := ce (wI M n (upd (M.1 n) i.toNatClampNeg x))) C.2.2.1 hq1 hb (by rw [ha]; simp [wI, va_up]) (fun j hj => C.2.2.2 _ _ j (by simp [wI, va_up, hj]) (by simp [wI, va_up, hj]))] at hP1
  exact hP1
theorem V_bald (C : Cx p s m args c cc nL own Ts D tys A ad ns ce) {n L t0 : Nat} {cA : ClassId} {i : Int32} (hb : n ∈ ns) (ha : ∀ M0 : Mm, ce M0 n = .inl (cA, L, .inl (M0.1 n))) (ht : tys[t0]? = some (cA, .byte)) (hin : vp_in i L) (hd : decode cc pc = .ok (.baload, 1)) (k : V p l e R s m args below meth c Q D A ad ns ce nL M lv (pc + 1) (.int (M.1 n i.toNatClampNeg) :: st)) : V p l e R s m args below meth c Q D A ad ns ce nL M lv (pc) (.int i :: .ref (ad n) :: st) := by
  intro H locs ls hP hS hl
  obtain ⟨q0, hq⟩ := wl_get (ad := ad) (ce M) hb
  rw [ha] at hq
  exact va_bald C.1.1 C.1.2.1 C.2.1 hP q0 t0 hq ht hin hd (k H locs ls hP hS hl)
theorem V_bast (C : Cx p s m args c cc nL own Ts D tys A ad ns ce) {n L t0 : Nat} {cA : ClassId} {i : Int32} {x : Int32} (hb : n ∈ ns) (ha : ∀ M0 : Mm, ce M0 n = .inl (cA, L, .inl (M0.1 n))) (ht : tys[t0]? = some (cA, .byte)) (hin : vp_in i L) (hd : decode cc pc = .ok (.bastore, 1)) (k : ∀ M1 : Mm, M1 = (wI M n (upd (M.1 n) i.toNatClampNeg (vp_nar .byte x))) → V p l e R s m args below meth c Q D A ad ns ce nL M1 lv (pc + 1) (st)) : V p l e R s m args below meth c Q D A ad ns ce nL M lv (pc) (.int x :: .int i :: .ref (ad n) :: st) := by
  intro H locs ls hP hS hl
  obtain ⟨q0, hq⟩ := wl_get (ad := ad) (ce M) hb
  have hq1 := hq
  rw [ha] at hq
  refine va_bast C.1.1 C.1.2.1 C.2.1 hP (C.2.2.1.D _) hS q0 t0 hq ht hin hd (fun H1 locs1 hP1 _ hS1 => ?_)
  refine k _ rfl H1 locs1 ls ?_ hS1 hl
  rw [wl_set (g := ce (wI M n (upd (M.1 n) i.toNatClampNeg (vp_nar .byte x)))) C.2.2.1 hq1 hb (by rw [ha]; simp [wI, va_up]) (fun j hj => C.2.2.2 _ _ j (by simp [wI, va_up, hj]) (by simp [wI, va_up, hj]))] at hP1
  exact hP1
theorem V_lald (C : Cx p s m args c cc nL own Ts D tys A ad ns ce) {n L t0 : Nat} {cA : ClassId} {i : Int32} (hb : n ∈ ns) (ha : ∀ M0 : Mm, ce M0 n = .inl (cA, L, .inr (.inl (M0.2 n)))) (ht : tys[t0]? = some (cA, .long)) (hin : vp_in i L) (hd : decode cc pc = .ok (.laload, 1)) (k : V p l e R s m args below meth c Q D A ad ns ce nL M lv (pc + 1) (.long (M.2 n i.toNatClampNeg) :: st)) : V p l e R s m args below meth c Q D A ad ns ce nL M lv (pc) (.int i :: .ref (ad n) :: st) := by
  intro H locs ls hP hS hl
  obtain ⟨q0, hq⟩ := wl_get (ad := ad) (ce M) hb
  rw [ha] at hq
  exact va_lald C.1.1 C.1.2.1 C.2.1 hP q0 t0 hq ht hin hd (k H locs ls hP hS hl)
theorem V_last (C : Cx p s m args c cc nL own Ts D tys A ad ns ce) {n L t0 : Nat} {cA : ClassId} {i : Int32} {x : Int64} (hb : n ∈ ns) (ha : ∀ M0 : Mm, ce M0 n = .inl (cA, L, .inr (.inl (M0.2 n)))) (ht : tys[t0]? = some (cA, .long)) (hin : vp_in i L) (hd : decode cc pc = .ok (.lastore, 1)) (k : ∀ M1 : Mm, M1 = (wJ M n (vp_updL (M.2 n) i.toNatClampNeg x)) → V p l e R s m args below meth c Q D A ad ns ce nL M1 lv (pc + 1) (st)) : V p l e R s m args below meth c Q D A ad ns ce nL M lv (pc) (.long x :: .int i :: .ref (ad n) :: st) := by
  intro H locs ls hP hS hl
  obtain ⟨q0, hq⟩ := wl_get (ad := ad) (ce M) hb
  have hq1 := hq
  rw [ha] at hq
  refine va_last C.1.1 C.1.2.1 C.2.1 hP (C.2.2.1.D _) hS q0 t0 hq ht hin hd (fun H1 locs1 hP1 _ hS1 => ?_)
  refine k _ rfl H1 locs1 ls ?_ hS1 hl
  rw [wl_set (g := ce (wJ M n (vp_updL (M.2 n) i.toNatClampNeg x))) C.2.2.1 hq1 hb (by rw [ha]; simp [wJ, va_up]) (fun j hj => C.2.2.2 _ _ j (by simp [wJ, va_up, hj]) (by simp [wJ, va_up, hj]))] at hP1
  exact hP1
theorem V_alen (C : Cx p s m args c cc nL own Ts D tys A ad ns ce) {n L t0 : Nat} {cA : ClassId} {a : vp_A} {ty : FieldType} {v : Int32} (hb : n ∈ ns) (ha : ce M n = .inl (cA, a)) (ht : tys[t0]? = some (cA, ty)) (hv : Int32.ofNat a.1 = v) (hd : decode cc pc = .ok (.arraylength, 1)) (k : V p l e R s m args below meth c Q D A ad ns ce nL M lv (pc + 1) (.int v :: st)) : V p l e R s m args below meth c Q D A ad ns ce nL M lv (pc) (.ref (ad n) :: st) := by
  intro H locs ls hP hS hl
  obtain ⟨q0, hq⟩ := wl_get (ad := ad) (ce M) hb
  rw [ha] at hq
  exact va_alen C.1.1 C.1.2.1 C.2.1 hP q0 t0 hq ht hv hd (k H locs ls hP hS hl)
theorem V_aald (C : Cx p s m args c cc nL own Ts D tys A ad ns ce) {n L t0 r : Nat} {cA : ClassId} {ty : FieldType} {f : Nat → Option Nat} {i : Int32} (hb : n ∈ ns) (ha : ce M n = .inl (cA, L, .inr (.inr (.inr (.inr f))))) (ht : tys[t0]? = some (cA, ty)) (hrk : ty.isReference = true) (hin : vp_in i L) (hr : f i.toNatClampNeg = some (ad r)) (hd : decode cc pc = .ok (.aaload, 1)) (k : V p l e R s m args below meth c Q D A ad ns ce nL M lv (pc + 1) (.ref (ad r) :: st)) : V p l e R s m args below meth c Q D A ad ns ce nL M lv (pc) (.int i :: .ref (ad n) :: st) := by
  intro H locs ls hP hS hl
  obtain ⟨q0, hq⟩ := wl_get (ad := ad) (ce M) hb
  rw [ha] at hq
  have hlt : i.toNatClampNeg < L := Nat.not_le.mp fun q => hin (Or.inr q)
  exact W.aald (v := .ref (ad r)) (ty := ty) C.1.1 C.1.2.1 (hP q0 _ hq) ((C.2.1.2 t0 _ ht).1 L (fun j => va_rf (f j))) hrk (fun q => by cases q) (by show ¬ (i < 0 ∨ (arrV _ _ _).slots.size ≤ _); rw [arrV_size]; exact hin) (by show (arrV _ _ _).slots[_]? = _; rw [arrV_read _ _ hlt, hr]; rfl) rfl rfl hd (k H locs ls hP hS hl)
theorem V_iret (C : Cx p s m args c cc nL own Ts D tys A ad ns ce) {post : Int32 → Mm → Prop} {v : Int32} (hr : meth.sig.returnType = some .int) (hlk : meth.locks = false) (hd : decode cc pc = .ok (.ireturn, 1)) (h : post v M) : V p l e R s m args below meth c (MQ below (va_Qi post (Wd D tys ad ns ce) A) args s 0 0 A) D A ad ns ce nL M lv pc [.int v] := fun H locs ls hP hS hl => W.iret C.1.1 C.1.2.1 hr (fun t ht hW => ⟨⟨v, M, rfl, h, by rw [ht]; exact hP, va_K.moved hW.alike C.2.1⟩, hS.F ht⟩) hS.2.2 hd hlk
theorem V_zret (C : Cx p s m args c cc nL own Ts D tys A ad ns ce) {post : Int32 → Mm → Prop} {v : Int32} (hr : meth.sig.returnType = some .boolean) (hlk : meth.locks = false) (hz : v = 0 ∨ v = 1) (hd : decode cc pc = .ok (.ireturn, 1)) (h : post v M) : V p l e R s m args below meth c (MQ below (va_Qi (fun r M' => (r = 0 ∨ r = 1) ∧ post r M') (Wd D tys ad ns ce) A) args s 0 0 A) D A ad ns ce nL M lv pc [.int v] := fun H locs ls hP hS hl => W.zret C.1.1 C.1.2.1 hr (by rcases hz with rfl | rfl <;> rfl) (fun t ht hW => ⟨⟨v, M, rfl, ⟨hz, h⟩, by rw [ht]; exact hP, va_K.moved hW.alike C.2.1⟩, hS.F ht⟩) hS.2.2 hd hlk
theorem V_lret (C : Cx p s m args c cc nL own Ts D tys A ad ns ce) {post : Int64 → Mm → Prop} {v : Int64} (hr : meth.sig.returnType = some .long) (hlk : meth.locks = false) (hd : decode cc pc = .ok (.lreturn, 1)) (h : post v M) : V p l e R s m args below meth c (MQ below (va_Ql post (Wd D tys ad ns ce) A) args s 0 0 A) D A ad ns ce nL M lv pc [.long v] := fun H locs ls hP hS hl => W.lret C.1.1 C.1.2.1 hr (fun t ht hW => ⟨⟨v, M, rfl, h, by rw [ht]; exact hP, va_K.moved hW.alike C.2.1⟩, hS.F ht⟩) hS.2.2 hd hlk
theorem V_vret (C : Cx p s m args c cc nL own Ts D tys A ad ns ce) {post : Mm → Prop} (hr : meth.sig.returnType = none) (hlk : meth.locks = false) (hd : decode cc pc = .ok (.return_, 1)) (h : post M) : V p l e R s m args below meth c (MQ below (va_Qv post (Wd D tys ad ns ce) A) args s 0 0 A) D A ad ns ce nL M lv pc [] := fun H locs ls hP hS hl => W.vret C.1.1 C.1.2.1 hr (fun t ht hW => ⟨⟨M, rfl, h, by rw [ht]; exact hP, va_K.moved hW.alike C.2.1⟩, hS.F ht⟩) hS.2.2 hd hlk
theorem V_aret (C : Cx p s m args c cc nL own Ts D tys A ad ns ce) {post : Nat → Mm → Prop} {n : Nat} {rt : String} (hr : meth.sig.returnType = some (.object rt)) (hlk : meth.locks = false) (hd : decode cc pc = .ok (.areturn, 1)) (h : post n M) : V p l e R s m args below meth c (MQ below (va_Qr (fun u : Nat × Mm => post u.1 u.2) (fun u a t => a = ad u.1 ∧ Wd D tys ad ns ce u.2 t) A) args s 0 0 A) D A ad ns ce nL M lv pc [.ref (ad n)] := fun H locs ls hP hS hl => W.aret C.1.1 C.1.2.1 hr (Or.inl ⟨rt, rfl⟩) (Or.inr ⟨ad n, rfl⟩) (fun t ht hW => ⟨⟨(n, M), ad n, rfl, h, rfl, by rw [ht]; exact hP, va_K.moved hW.alike C.2.1⟩, hS.F ht⟩) hS.2.2 hd hlk
theorem V_callVi (C : Cx p s m args c cc nL own Ts D tys A ad ns ce) {y : MethodName} {ws : List Cond} {rm : Room} {n index maxL : Nat} {bytes : ByteArray} {ret : Option FieldType} {As : List Value} {ci b : Nat} {q : vw_C} {fs : List Value} (hb : b ∈ ns) (hce : ce M b = .inr (ci, fs)) (hc : vwCl[ci]? = some q) {post : Int32 → Mm → Prop} (hM : CI l y ws rm D tys A ad ns ce (.ref (ad b) :: As) M post) (cw : CallW R s args own q.1 index y bytes maxL ret ws rm 0 0 n) (hn : As.length = n) (hst : st = As.reverse ++ .ref (ad b) :: rest) (hW : (rest.map fun v => v.category).sum ≤ 8) (hd : decode cc pc = .ok (.invokevirtual index, 3)) (k : ∀ (r : Int32) (M1 : Mm), post r M1 → V p l e R s m args below meth c Q D A ad ns ce nL M1 lv (pc + 3) (.int r :: rest)) : V p l e R s m args below meth c Q D A ad ns ce nL M lv (pc) (st) := by
  intro H locs ls hP hS hl
  subst hst
  obtain ⟨q0, hq⟩ := wl_get (ad := ad) (ce M) hb
  rw [hce] at hq
  exact va_calli (va_runV (As := As) (rest := rest) C.1 hM cw ⟨Wd.blind, va_recv C.2.1 hP hc hq, fun U hU hW1 => ⟨rfl, by rw [hU]; exact hP, va_K.moved hW1.alike C.2.1⟩⟩ rfl hn hl.1 rfl (lv_room hW) hd ⟨Nat.zero_le _, Nat.zero_le _⟩) hS (fun _ _ h => h) (fun _ h => h) (fun r u t H1 locs1 ht hvm hp hB hz hk hS1 => k r u hp H1 locs1 ls (by rw [← ht]; exact hB.1) hS1 hl)
theorem V_callSi (C : Cx p s m args c cc nL own Ts D tys A ad ns ce) {y : MethodName} {ws : List Cond} {rm : Room} {n index maxL : Nat} {bytes : ByteArray} {ret : Option FieldType} {As : List Value} {post : Int32 → Mm → Prop} (hM : CI l y ws rm D tys A ad ns ce As M post) (cw : CallB R s args own index y bytes maxL ret ws rm 0 0 n ∧ (Cond.static y).before args s = true) (hn : As.length = n) (hst : st = As.reverse ++ rest) (hW : (rest.map fun v => v.category).sum ≤ 8) (hd : decode cc pc = .ok (.invokestatic index, 3)) (k : ∀ (r : Int32) (M1 : Mm), post r M1 → V p l e R s m args below meth c Q D A ad ns ce nL M1 lv (pc + 3) (.int r :: rest)) : V p l e R s m args below meth c Q D A ad ns ce nL M lv (pc) (st) := by
  intro H locs ls hP hS hl
  subst hst
  exact va_calli (va_runS (As := As) (rest := rest) C.1 hM cw ⟨Wd.blind, fun U hU hW1 => ⟨rfl, by rw [hU]; exact hP, va_K.moved hW1.alike C.2.1⟩⟩ rfl hn hl.1 rfl (lv_room hW) hd ⟨Nat.zero_le _, Nat.zero_le _⟩) hS (fun _ _ h => h) (fun _ h => h) (fun r u t H1 locs1 ht hvm hp hB hz hk hS1 => k r u hp H1 locs1 ls (by rw [← ht]; exact hB.1) hS1 hl)
theorem V_callVl (C : Cx p s m args c cc nL own Ts D tys A ad ns ce) {y : MethodName} {ws : List Cond} {rm : Room} {n index maxL : Nat} {bytes : ByteArray} {ret : Option FieldType} {As : List Value} {ci b : Nat} {q : vw_C} {fs : List Value} (hb : b ∈ ns) (hce : ce M b = .inr (ci, fs)) (hc : vwCl[ci]? = some q) {post : Int64 → Mm → Prop} (hM : CL l y ws rm D tys A ad ns ce (.ref (ad b) :: As) M post) (cw : CallW R s args own q.1 index y bytes maxL ret ws rm 0 0 n) (hn : As.length = n) (hst : st = As.reverse ++ .ref (ad b) :: rest) (hW : (rest.map fun v => v.category).sum ≤ 8) (hd : decode cc pc = .ok (.invokevirtual index, 3)) (k : ∀ (r : Int64) (M1 : Mm), post r M1 → V p l e R s m args below meth c Q D A ad ns ce nL M1 lv (pc + 3) (.long r :: rest)) : V p l e R s m args below meth c Q D A ad ns ce nL M lv (pc) (st) := by
  intro H locs ls hP hS hl
  subst hst
  obtain ⟨q0, hq⟩ := wl_get (ad := ad) (ce M) hb
  rw [hce] at hq
  exact va_calll (va_runV (As := As) (rest := rest) C.1 hM cw ⟨Wd.blind, va_recv C.2.1 hP hc hq, fun U hU hW1 => ⟨rfl, by rw [hU]; exact hP, va_K.moved hW1.alike C.2.1⟩⟩ rfl hn hl.1 rfl (lv_room hW) hd ⟨Nat.zero_le _, Nat.zero_le _⟩) hS (fun _ _ h => h) (fun _ h => h) (fun r u t H1 locs1 ht hvm hp hB hz hk hS1 => k r u hp H1 locs1 ls (by rw [← ht]; exact hB.1) hS1 hl)
theorem V_callSl (C : Cx p s m args c cc nL own Ts D tys A ad ns ce) {y : MethodName} {ws : List Cond} {rm : Room} {n index maxL : Nat} {bytes : ByteArray} {ret : Option FieldType} {As : List Value} {post : Int64 → Mm → Prop} (hM : CL l y ws rm D tys A ad ns ce As M post) (cw : CallB R s args own index y bytes maxL ret ws rm 0 0 n ∧ (Cond.static y).before args s = true) (hn : As.length = n) (hst : st = As.reverse ++ rest) (hW : (rest.map fun v => v.category).sum ≤ 8) (hd : decode cc pc = .ok (.invokestatic index, 3)) (k : ∀ (r : Int64) (M1 : Mm), post r M1 → V p l e R s m args below meth c Q D A ad ns ce nL M1 lv (pc + 3) (.long r :: rest)) : V p l e R s m args below meth c Q D A ad ns ce nL M lv (pc) (st) := by
  intro H locs ls hP hS hl
  subst hst
  exact va_calll (va_runS (As := As) (rest := rest) C.1 hM cw ⟨Wd.blind, fun U hU hW1 => ⟨rfl, by rw [hU]; exact hP, va_K.moved hW1.alike C.2.1⟩⟩ rfl hn hl.1 rfl (lv_room hW) hd ⟨Nat.zero_le _, Nat.zero_le _⟩) hS (fun _ _ h => h) (fun _ h => h) (fun r u t H1 locs1 ht hvm hp hB hz hk hS1 => k r u hp H1 locs1 ls (by rw [← ht]; exact hB.1) hS1 hl)
theorem V_callVv (C : Cx p s m args c cc nL own Ts D tys A ad ns ce) {y : MethodName} {ws : List Cond} {rm : Room} {n index maxL : Nat} {bytes : ByteArray} {ret : Option FieldType} {As : List Value} {ci b : Nat} {q : vw_C} {fs : List Value} (hb : b ∈ ns) (hce : ce M b = .inr (ci, fs)) (hc : vwCl[ci]? = some q) {post : Mm → Prop} (hM : CV l y ws rm D tys A ad ns ce (.ref (ad b) :: As) M post) (cw : CallW R s args own q.1 index y bytes maxL ret ws rm 0 0 n) (hn : As.length = n) (hst : st = As.reverse ++ .ref (ad b) :: rest) (hW : (rest.map fun v => v.category).sum ≤ 8) (hd : decode cc pc = .ok (.invokevirtual index, 3)) (k : ∀ (M1 : Mm), post M1 → V p l e R s m args below meth c Q D A ad ns ce nL M1 lv (pc + 3) (rest)) : V p l e R s m args below meth c Q D A ad ns ce nL M lv (pc) (st) := by
  intro H locs ls hP hS hl
  subst hst
  obtain ⟨q0, hq⟩ := wl_get (ad := ad) (ce M) hb
  rw [hce] at hq
  exact va_callv (va_runV (As := As) (rest := rest) C.1 hM cw ⟨Wd.blind, va_recv C.2.1 hP hc hq, fun U hU hW1 => ⟨rfl, by rw [hU]; exact hP, va_K.moved hW1.alike C.2.1⟩⟩ rfl hn hl.1 rfl (lv_room hW) hd ⟨Nat.zero_le _, Nat.zero_le _⟩) hS (fun _ _ h => h) (fun _ h => h) (fun u t H1 locs1 ht hvm hp hB hz hk hS1 => k u hp H1 locs1 ls (by rw [← ht]; exact hB.1) hS1 hl)
theorem V_callSv (C : Cx p s m args c cc nL own Ts D tys A ad ns ce) {y : MethodName} {ws : List Cond} {rm : Room} {n index maxL : Nat} {bytes : ByteArray} {ret : Option FieldType} {As : List Value} {post : Mm → Prop} (hM : CV l y ws rm D tys A ad ns ce As M post) (cw : CallB R s args own index y bytes maxL ret ws rm 0 0 n ∧ (Cond.static y).before args s = true) (hn : As.length = n) (hst : st = As.reverse ++ rest) (hW : (rest.map fun v => v.category).sum ≤ 8) (hd : decode cc pc = .ok (.invokestatic index, 3)) (k : ∀ (M1 : Mm), post M1 → V p l e R s m args below meth c Q D A ad ns ce nL M1 lv (pc + 3) (rest)) : V p l e R s m args below meth c Q D A ad ns ce nL M lv (pc) (st) := by
  intro H locs ls hP hS hl
  subst hst
  exact va_callv (va_runS (As := As) (rest := rest) C.1 hM cw ⟨Wd.blind, fun U hU hW1 => ⟨rfl, by rw [hU]; exact hP, va_K.moved hW1.alike C.2.1⟩⟩ rfl hn hl.1 rfl (lv_room hW) hd ⟨Nat.zero_le _, Nat.zero_le _⟩) hS (fun _ _ h => h) (fun _ h => h) (fun u t H1 locs1 ht hvm hp hB hz hk hS1 => k u hp H1 locs1 ls (by rw [← ht]; exact hB.1) hS1 hl)
theorem V_callVr (C : Cx p s m args c cc nL own Ts D tys A ad ns ce) {y : MethodName} {ws : List Cond} {rm : Room} {n index maxL : Nat} {bytes : ByteArray} {ret : Option FieldType} {As : List Value} {ci b : Nat} {q : vw_C} {fs : List Value} (hb : b ∈ ns) (hce : ce M b = .inr (ci, fs)) (hc : vwCl[ci]? = some q) {post : Nat → Mm → Prop} (hM : CR l y ws rm D tys A ad ns ce (.ref (ad b) :: As) M post) (cw : CallW R s args own q.1 index y bytes maxL ret ws rm 0 0 n) (hn : As.length = n) (hst : st = As.reverse ++ .ref (ad b) :: rest) (hW : (rest.map fun v => v.category).sum ≤ 8) (hd : decode cc pc = .ok (.invokevirtual index, 3)) (k : ∀ (r : Nat) (M1 : Mm), post r M1 → V p l e R s m args below meth c Q D A ad ns ce nL M1 lv (pc + 3) (.ref (ad r) :: rest)) : V p l e R s m args below meth c Q D A ad ns ce nL M lv (pc) (st) := by
  intro H locs ls hP hS hl
  subst hst
  obtain ⟨q0, hq⟩ := wl_get (ad := ad) (ce M) hb
  rw [hce] at hq
  exact va_callr (va_runV (As := As) (rest := rest) C.1 hM cw ⟨Wd.blind, va_recv C.2.1 hP hc hq, fun U hU hW1 => ⟨rfl, by rw [hU]; exact hP, va_K.moved hW1.alike C.2.1⟩⟩ rfl hn hl.1 rfl (lv_room hW) hd ⟨Nat.zero_le _, Nat.zero_le _⟩) hS (fun _ _ h => h) (fun _ h => h) (fun u a t H1 locs1 ht hvm hp hB hz hk hS1 => (by have h := k u.1 u.2 hp H1 locs1 ls (by rw [← ht]; exact hB.2.1) hS1 hl; rw [hB.1]; exact h))
theorem V_callO (C : Cx p s m args c cc nL own Ts D tys A ad ns ce) {y : MethodName} {ws : List Cond} {rm : Room} {n index maxL : Nat} {bytes : ByteArray} {ret : Option FieldType} {As : List Value} {ci b : Nat} {q : vw_C} {fs : List Value} (hb : b ∈ ns) (hce : ce M b = .inr (ci, fs)) (hc : vwCl[ci]? = some q) {x : MethodName} {owner : String} {post : Int32 → Mm → Prop} (hM : CI l y ws rm D tys A ad ns ce (.ref (ad b) :: As) M post) (cw : va_CU R s args own q.1 owner index x y bytes maxL ret ws rm 0 0 n) (hn : As.length = n) (hst : st = As.reverse ++ .ref (ad b) :: rest) (hW : (rest.map fun v => v.category).sum ≤ 8) (hd : decode cc pc = .ok (.invokevirtual index, 3)) (k : ∀ (r : Int32) (M1 : Mm), post r M1 → V p l e R s m args below meth c Q D A ad ns ce nL M1 lv (pc + 3) (.int r :: rest)) : V p l e R s m args below meth c Q D A ad ns ce nL M lv (pc) (st) := by
  intro H locs ls hP hS hl
  subst hst
  obtain ⟨q0, hq⟩ := wl_get (ad := ad) (ce M) hb
  rw [hce] at hq
  exact va_calli (va_runU (As := As) (rest := rest) C.1 hM cw ⟨Wd.blind, va_recv C.2.1 hP hc hq, fun U hU hW1 => ⟨rfl, by rw [hU]; exact hP, va_K.moved hW1.alike C.2.1⟩⟩ rfl hn hl.1 rfl (lv_room hW) hd ⟨Nat.zero_le _, Nat.zero_le _⟩) hS (fun _ _ h => h) (fun _ h => h) (fun r u t H1 locs1 ht hvm hp hB hz hk hS1 => k r u hp H1 locs1 ls (by rw [← ht]; exact hB.1) hS1 hl)
theorem V_callU (C : Cx p s m args c cc nL own Ts D tys A ad ns ce) {y : MethodName} {ws : List Cond} {rm : Room} {n index maxL : Nat} {bytes : ByteArray} {ret : Option FieldType} {As : List Value} {ci b : Nat} {q : vw_C} {fs : List Value} (hb : b ∈ ns) (hce : ce M b = .inr (ci, fs)) (hc : vwCl[ci]? = some q) {post : Int32 → Mm → Prop} (hM : CI l y ws rm D tys A ad ns ce (.ref (ad b) :: As) M post) (cw : va_CS R s args own index y bytes maxL ret ws rm 0 0 n) (hn : As.length = n) (hst : st = As.reverse ++ .ref (ad b) :: rest) (hW : (rest.map fun v => v.category).sum ≤ 8) (hd : decode cc pc = .ok (.invokespecial index, 3)) (k : ∀ (r : Int32) (M1 : Mm), post r M1 → V p l e R s m args below meth c Q D A ad ns ce nL M1 lv (pc + 3) (.int r :: rest)) : V p l e R s m args below meth c Q D A ad ns ce nL M lv (pc) (st) := by
  intro H locs ls hP hS hl
  subst hst
  obtain ⟨q0, hq⟩ := wl_get (ad := ad) (ce M) hb
  rw [hce] at hq
  exact va_calli (va_runSU (As := As) (rest := rest) (C.2.1.1 ci _ hc).2 C.1 hM cw ⟨Wd.blind, va_recv C.2.1 hP hc hq, fun U hU hW1 => ⟨rfl, by rw [hU]; exact hP, va_K.moved hW1.alike C.2.1⟩⟩ rfl hn hl.1 rfl (lv_room hW) hd ⟨Nat.zero_le _, Nat.zero_le _⟩) hS (fun _ _ h => h) (fun _ h => h) (fun r u t H1 locs1 ht hvm hp hB hz hk hS1 => k r u hp H1 locs1 ls (by rw [← ht]; exact hB.1) hS1 hl)
theorem V_mmax (C : Cx p s m args c cc nL own Ts D tys A ad ns ce) {index : Nat} {x y : Int32} (h1 : Cond.methodLink own index Lib.Math.max.name ∈ Ts) (h2 : Cond.static Lib.Math.max.name ∈ Ts) (h3 : Cond.initialized "java/lang/Math" ∈ Ts) (h4 : Cond.code Lib.Math.max.name Lib.Math.max.code 2 (some .int) ∈ Ts) (hf : 1 ≤ R.frames) (hlo : (st.map fun v => v.category).sum + 13 ≤ R.locals) (hd : decode cc pc = .ok (.invokestatic index, 3)) (k : V p l e R s m args below meth c Q D A ad ns ce nL M lv (pc + 3) (.int (if x < y then y else x) :: st)) : V p l e R s m args below meth c Q D A ad ns ce nL M lv (pc) (.int y :: .int x :: st) := fun H locs ls hP hS hl => va_mmax C.1.1 C.1.2.1 (C.1.2.2.1.trans hl.1.symm) C.1.2.2.2.1 (C.1.2.2.2.2 _ h1) (C.1.2.2.2.2 _ h2) (C.1.2.2.2.2 _ h3) (C.1.2.2.2.2 _ h4) hf hlo (Nat.zero_le _) (Nat.zero_le _) hd (k H locs ls hP hS hl)
theorem V_mmin (C : Cx p s m args c cc nL own Ts D tys A ad ns ce) {index : Nat} {x y : Int32} (h1 : Cond.methodLink own index Lib.Math.min.name ∈ Ts) (h2 : Cond.static Lib.Math.min.name ∈ Ts) (h3 : Cond.initialized "java/lang/Math" ∈ Ts) (h4 : Cond.code Lib.Math.min.name Lib.Math.min.code 2 (some .int) ∈ Ts) (hf : 1 ≤ R.frames) (hlo : (st.map fun v => v.category).sum + 13 ≤ R.locals) (hd : decode cc pc = .ok (.invokestatic index, 3)) (k : V p l e R s m args below meth c Q D A ad ns ce nL M lv (pc + 3) (.int (if y < x then y else x) :: st)) : V p l e R s m args below meth c Q D A ad ns ce nL M lv (pc) (.int y :: .int x :: st) := fun H locs ls hP hS hl => va_mmin C.1.1 C.1.2.1 (C.1.2.2.1.trans hl.1.symm) C.1.2.2.2.1 (C.1.2.2.2.2 _ h1) (C.1.2.2.2.2 _ h2) (C.1.2.2.2.2 _ h3) (C.1.2.2.2.2 _ h4) hf hlo (Nat.zero_le _) (Nat.zero_le _) hd (k H locs ls hP hS hl)
theorem V_copyi (C : Cx p s m args c cc nL own Ts D tys A ad ns ce) {index n0 n1 L0 L1 t0 : Nat} {cA : ClassId} {sp dp cn : Int32} (h1 : Cond.methodLink own index arraycopyName ∈ Ts) (h2 : Cond.native arraycopyName ∈ Ts) (h3 : Cond.static arraycopyName ∈ Ts) (h4 : Cond.initialized "java/lang/System" ∈ Ts) (hb0 : n0 ∈ ns) (hb1 : n1 ∈ ns) (ha0 : ∀ M0 : Mm, ce M0 n0 = .inl (cA, L0, .inl (M0.1 n0))) (ha1 : ∀ M0 : Mm, ce M0 n1 = .inl (cA, L1, .inl (M0.1 n1))) (ht : tys[t0]? = some (cA, .int)) (g1 : ¬ sp < 0) (g2 : ¬ dp < 0) (g3 : ¬ cn < 0) (g4 : sp.toNatClampNeg + cn.toNatClampNeg ≤ L0) (g5 : dp.toNatClampNeg + cn.toNatClampNeg ≤ L1) (hf : 1 ≤ R.frames) (hlo : (st.map fun v => v.category).sum + (nativeFrameWords "java/lang/System" "arraycopy" 5 + 11) ≤ R.locals) (hd : decode cc pc = .ok (.invokestatic index, 3)) (k : ∀ M1 : Mm, M1 = (wI M n1 (va_cpy (M.1 n0) (M.1 n1) sp.toNatClampNeg dp.toNatClampNeg cn.toNatClampNeg)) → V p l e R s m args below meth c Q D A ad ns ce nL M1 lv (pc + 3) (st)) : V p l e R s m args below meth c Q D A ad ns ce nL M lv (pc) (.int cn :: .int dp :: .ref (ad n1) :: .int sp :: .ref (ad n0) :: st) := by
  intro H locs ls hP hS hl
  obtain ⟨q0, hq0⟩ := wl_get (ad := ad) (ce M) hb0
  obtain ⟨q1, hq1⟩ := wl_get (ad := ad) (ce M) hb1
  have hq2 := hq1
  rw [ha0] at hq0
  rw [ha1] at hq1
  refine va_copyi C.1.1 C.1.2.1 (C.1.2.2.1.trans hl.1.symm) C.1.2.2.2.1 (C.1.2.2.2.2 _ h1) (C.1.2.2.2.2 _ h2) (C.1.2.2.2.2 _ h3) (C.1.2.2.2.2 _ h4) C.2.1 hP (C.2.2.1.D _) hS q0 q1 t0 t0 hq0 hq1 ht ht rfl g1 g2 g3 g4 g5 (fun i hi => rfl) hf hlo hd (fun H1 locs1 hP1 _ hS1 => ?_)
  refine k _ rfl H1 locs1 ls ?_ hS1 hl
  rw [wl_set (g := ce (wI M n1 (va_cpy (M.1 n0) (M.1 n1) sp.toNatClampNeg dp.toNatClampNeg cn.toNatClampNeg))) C.2.2.1 hq2 hb1 (by rw [ha1]; simp [wI, va_up]) (fun j hj => C.2.2.2 _ _ j (by simp [wI, va_up, hj]) (by simp [wI, va_up, hj]))] at hP1
  exact hP1
theorem V_copyl (C : Cx p s m args c cc nL own Ts D tys A ad ns ce) {index n0 n1 L0 L1 t0 : Nat} {cA : ClassId} {sp dp cn : Int32} (h1 : Cond.methodLink own index arraycopyName ∈ Ts) (h2 : Cond.native arraycopyName ∈ Ts) (h3 : Cond.static arraycopyName ∈ Ts) (h4 : Cond.initialized "java/lang/System" ∈ Ts) (hb0 : n0 ∈ ns) (hb1 : n1 ∈ ns) (ha0 : ∀ M0 : Mm, ce M0 n0 = .inl (cA, L0, .inr (.inl (M0.2 n0)))) (ha1 : ∀ M0 : Mm, ce M0 n1 = .inl (cA, L1, .inr (.inl (M0.2 n1)))) (ht : tys[t0]? = some (cA, .long)) (g1 : ¬ sp < 0) (g2 : ¬ dp < 0) (g3 : ¬ cn < 0) (g4 : sp.toNatClampNeg + cn.toNatClampNeg ≤ L0) (g5 : dp.toNatClampNeg + cn.toNatClampNeg ≤ L1) (hf : 1 ≤ R.frames) (hlo : (st.map fun v => v.category).sum + (nativeFrameWords "java/lang/System" "arraycopy" 5 + 11) ≤ R.locals) (hd : decode cc pc = .ok (.invokestatic index, 3)) (k : ∀ M1 : Mm, M1 = (wJ M n1 (va_cpy (M.2 n0) (M.2 n1) sp.toNatClampNeg dp.toNatClampNeg cn.toNatClampNeg)) → V p l e R s m args below meth c Q D A ad ns ce nL M1 lv (pc + 3) (st)) : V p l e R s m args below meth c Q D A ad ns ce nL M lv (pc) (.int cn :: .int dp :: .ref (ad n1) :: .int sp :: .ref (ad n0) :: st) := by
  intro H locs ls hP hS hl
  obtain ⟨q0, hq0⟩ := wl_get (ad := ad) (ce M) hb0
  obtain ⟨q1, hq1⟩ := wl_get (ad := ad) (ce M) hb1
  have hq2 := hq1
  rw [ha0] at hq0
  rw [ha1] at hq1
  refine va_copyl C.1.1 C.1.2.1 (C.1.2.2.1.trans hl.1.symm) C.1.2.2.2.1 (C.1.2.2.2.2 _ h1) (C.1.2.2.2.2 _ h2) (C.1.2.2.2.2 _ h3) (C.1.2.2.2.2 _ h4) C.2.1 hP (C.2.2.1.D _) hS q0 q1 t0 t0 hq0 hq1 ht ht rfl g1 g2 g3 g4 g5 (fun i hi => rfl) hf hlo hd (fun H1 locs1 hP1 _ hS1 => ?_)
  refine k _ rfl H1 locs1 ls ?_ hS1 hl
  rw [wl_set (g := ce (wJ M n1 (va_cpy (M.2 n0) (M.2 n1) sp.toNatClampNeg dp.toNatClampNeg cn.toNatClampNeg))) C.2.2.1 hq2 hb1 (by rw [ha1]; simp [wJ, va_up]) (fun j hj => C.2.2.2 _ _ j (by simp [wJ, va_up, hj]) (by simp [wJ, va_up, hj]))] at hP1
  exact hP1
theorem V_drop (ks : List Nat) (hl' : lv_pick lv ks = lv') (k : V p l e R s m args below meth c Q D A ad ns ce nL M lv' (pc) (st)) : V p l e R s m args below meth c Q D A ad ns ce nL M lv (pc) (st) := fun H locs ls hP hS hl => k H locs ls hP hS (lv_sub hl ks hl')
end VR
theorem nz_n {v : Int32} (hz : v = 0 ∨ v = 1) : narrow .boolean (.int v) = .int v := by rcases hz with rfl | rfl <;> rfl
theorem nz_f {v : Int32} (hz : v = 0 ∨ v = 1) : fits .boolean (.int v) = true := by rcases hz with rfl | rfl <;> rfl
end
section
abbrev tysC (cy : Nat → ClassId) : List (ClassId × FieldType) := [(cy 0, .byte), (cy 1, .int), (cy 2, .long), (cy 3, .object "ShameYards$Clerk"), (cy 4, .array .int)]
abbrev nsX : List Nat := List.range 84
abbrev nsM : List Nat := List.range 33
theorem nsX_mem {n : Nat} (h : n < 84) : n ∈ nsX := List.mem_range.mpr h
theorem nsM_mem {n : Nat} (h : n < 33) : n ∈ nsM := List.mem_range.mpr h
def kdX (n : Nat) : Nat := ([10, 5, 13, 2, 15, 1, 0, 4, 9, 3, 13, 13, 13, 13, 13, 13, 13, 13, 13, 13, 13, 13, 2, 15, 1, 0, 4, 9, 3, 13, 13, 13, 13, 13, 13, 13, 13, 13, 13, 13, 13, 2, 15, 1, 0, 4, 9, 3, 13, 13, 13, 13, 13, 13, 13, 13, 13, 13, 13, 13, 8, 13, 13, 16, 13, 13, 13, 13, 13, 13, 13, 6, 16, 13, 13, 13, 13, 13, 13, 13, 7, 14, 14, 14] : List Nat).getD n 99
def lnX (n : Nat) : Nat := ([5, 5, 52, 5, 5, 5, 5, 5, 5, 5, 7, 7, 7, 5, 5, 5, 5, 5, 6, 6, 6, 6, 5, 5, 5, 5, 5, 5, 5, 7, 7, 7, 5, 5, 5, 5, 5, 6, 6, 6, 6, 5, 5, 5, 5, 5, 5, 5, 7, 7, 7, 5, 5, 5, 5, 5, 6, 6, 6, 6, 5, 7, 5, 5, 5, 5, 5, 5, 5, 5, 5, 5, 5, 5, 5, 5, 5, 5, 5, 5, 5, 5, 5, 5] : List Nat).getD n 0
/-- what the named cell n of the class holds -/
def ceX (ad : Nat → Nat) (cy : Nat → ClassId) (M : Mm) (n : Nat) : va_E := match kdX n with
  | 0 => .inr (0, [])
  | 1 => .inr (1, [])
  | 2 => .inr (2, [.ref (ad (n + 1)), .int (M.1 n 1), .int (M.1 n 2), .int (M.1 n 3), .ref (ad (n + 7)), .ref (ad (n + 8)), .ref (ad (n + 9)), .ref (ad (n + 10)), .ref (ad (n + 11)), .ref (ad (n + 12)), .ref (ad (n + 13)), .ref (ad (n + 14)), .int (M.1 n 12), .int (M.1 n 13), .ref (ad (n + 15)), .ref (ad (n + 16)), .ref (ad (n + 17)), .ref (ad (n + 18))])
  | 3 => .inr (3, [])
  | 4 => .inr (4, [])
  | 5 => .inr (5, [.ref (ad 2), .int (M.1 n 1)])
  | 6 => .inr (6, [.ref (ad 72), .ref (ad 78), .ref (ad 79), .int (M.1 n 3), .int (M.1 n 4), .int (M.1 n 5)])
  | 7 => .inr (7, [.ref (ad 81), .ref (ad 82), .ref (ad 83), .ref (ad 41), .long (M.2 n 4), .long (M.2 n 5), .int (M.1 n 6), .int (M.1 n 7)])
  | 8 => .inr (8, [.ref (ad 61), .ref (ad 62), .ref (ad 63), .ref (ad 69), .ref (ad 70), .int (M.1 n 5)])
  | 9 => .inr (9, [])
  | 10 => .inr (10, [.ref (ad 1), .ref (ad 3), .ref (ad 22), .ref (ad 60), .ref (ad 71), .ref (ad 80), .int (M.1 n 6), .int (M.1 n 7), .int (M.1 n 8)])
  | 13 => .inl (cy 1, lnX n, .inl (M.1 n))
  | 14 => .inl (cy 2, lnX n, .inr (.inl (M.2 n)))
  | 15 => .inl (cy 3, 5, .inr (.inr (.inr (.inr (fun i => if i < 5 then some (ad (n + 1 + i)) else none)))))
  | _ => .inl (cy 4, 5, .inr (.inr (.inr (.inr (fun i => if i < 5 then some (ad (n + 1 + i)) else none)))))
def kdM (n : Nat) : Nat := ([11, 13, 13, 13, 13, 13, 13, 13, 13, 13, 13, 13, 13, 12, 13, 13, 13, 13, 13, 13, 14, 14, 13, 13, 13, 13, 13, 13, 13, 13, 13, 13, 13] : List Nat).getD n 99
def lnM (n : Nat) : Nat := ([0, 7, 7, 7, 5, 5, 5, 5, 5, 6, 6, 6, 6, 52, 5, 5, 5, 25, 5, 5, 10, 5, 5, 5, 7, 5, 5, 5, 5, 6, 6, 6, 6] : List Nat).getD n 0
def ceM (ad : Nat → Nat) (cy : Nat → ClassId) (M : Mm) (n : Nat) : va_E := match kdM n with
  | 11 => .inr (11, [.int (M.1 n 0), .int (M.1 n 1), .int (M.1 n 2), .int (M.1 n 3), .ref (ad 1), .ref (ad 2), .ref (ad 3), .ref (ad 4), .ref (ad 5), .ref (ad 6), .ref (ad 7), .ref (ad 8), .int (M.1 n 12), .int (M.1 n 13), .int (M.1 n 14), .ref (ad 9), .ref (ad 10), .ref (ad 11), .ref (ad 12), .int (M.1 n 19), .ref (ad 13), .int (M.1 n 21), .int (M.1 n 22), .int (M.1 n 23), .ref (ad 14), .ref (ad 15), .ref (ad 16), .ref (ad 17), .ref (ad 18), .ref (ad 19), .ref (ad 20), .ref (ad 21), .long (M.2 n 32), .ref (ad 22), .ref (ad 23), .int (M.1 n 35), .int (M.1 n 36), .int (M.1 n 37), .int (M.1 n 38), .ref (ad 24), .ref (ad 25), .ref (ad 26), .ref (ad 27), .ref (ad 28), .ref (ad 29), .ref (ad 30), .ref (ad 31), .ref (ad 32), .long (M.2 n 48)])
  | 12 => .inl (cy 0, lnM n, .inl (M.1 n))
  | 13 => .inl (cy 1, lnM n, .inl (M.1 n))
  | _ => .inl (cy 2, lnM n, .inr (.inl (M.2 n)))
theorem Lo_X {ad : Nat → Nat} {cy : Nat → ClassId} : Lo (ceX ad cy) := by
  intro M M' n h1 h2
  unfold ceX
  rw [h1, h2]
theorem Lo_M {ad : Nat → Nat} {cy : Nat → ClassId} : Lo (ceM ad cy) := by
  intro M M' n h1 h2
  unfold ceM
  rw [h1, h2]
abbrev isH (b : Nat) : Prop := b = 3 ∨ b = 22 ∨ b = 41
theorem hs_mem {b k : Nat} (hb : isH b) (hk : k < 19) : b + k ∈ nsX := by rcases hb with rfl | rfl | rfl <;> exact List.mem_range.mpr (by omega)
theorem hs_mem0 {b : Nat} (hb : isH b) : b ∈ nsX := by rcases hb with rfl | rfl | rfl <;> exact List.mem_range.mpr (by omega)
theorem ceX_H {ad : Nat → Nat} {cy : Nat → ClassId} {b : Nat} (hb : isH b) (M : Mm) : ceX ad cy M b = .inr (2, [.ref (ad (b + 1)), .int (M.1 b 1), .int (M.1 b 2), .int (M.1 b 3), .ref (ad (b + 7)), .ref (ad (b + 8)), .ref (ad (b + 9)), .ref (ad (b + 10)), .ref (ad (b + 11)), .ref (ad (b + 12)), .ref (ad (b + 13)), .ref (ad (b + 14)), .int (M.1 b 12), .int (M.1 b 13), .ref (ad (b + 15)), .ref (ad (b + 16)), .ref (ad (b + 17)), .ref (ad (b + 18))]) := by rcases hb with rfl | rfl | rfl <;> rfl
theorem hs_1 {ad : Nat → Nat} {cy : Nat → ClassId} {b : Nat} (hb : isH b) (M : Mm) : ceX ad cy M (b + 1) = .inl (cy 3, 5, .inr (.inr (.inr (.inr (fun i => if i < 5 then some (ad ((b + 1) + 1 + i)) else none))))) := by rcases hb with rfl | rfl | rfl <;> rfl
theorem hs_7 {ad : Nat → Nat} {cy : Nat → ClassId} {b : Nat} (hb : isH b) (M : Mm) : ceX ad cy M (b + 7) = .inl (cy 1, 7, .inl (M.1 (b + 7))) := by rcases hb with rfl | rfl | rfl <;> rfl
theorem hs_8 {ad : Nat → Nat} {cy : Nat → ClassId} {b : Nat} (hb : isH b) (M : Mm) : ceX ad cy M (b + 8) = .inl (cy 1, 7, .inl (M.1 (b + 8))) := by rcases hb with rfl | rfl | rfl <;> rfl
theorem hs_9 {ad : Nat → Nat} {cy : Nat → ClassId} {b : Nat} (hb : isH b) (M : Mm) : ceX ad cy M (b + 9) = .inl (cy 1, 7, .inl (M.1 (b + 9))) := by rcases hb with rfl | rfl | rfl <;> rfl
theorem hs_10 {ad : Nat → Nat} {cy : Nat → ClassId} {b : Nat} (hb : isH b) (M : Mm) : ceX ad cy M (b + 10) = .inl (cy 1, 5, .inl (M.1 (b + 10))) := by rcases hb with rfl | rfl | rfl <;> rfl
theorem hs_11 {ad : Nat → Nat} {cy : Nat → ClassId} {b : Nat} (hb : isH b) (M : Mm) : ceX ad cy M (b + 11) = .inl (cy 1, 5, .inl (M.1 (b + 11))) := by rcases hb with rfl | rfl | rfl <;> rfl
theorem hs_12 {ad : Nat → Nat} {cy : Nat → ClassId} {b : Nat} (hb : isH b) (M : Mm) : ceX ad cy M (b + 12) = .inl (cy 1, 5, .inl (M.1 (b + 12))) := by rcases hb with rfl | rfl | rfl <;> rfl
theorem hs_13 {ad : Nat → Nat} {cy : Nat → ClassId} {b : Nat} (hb : isH b) (M : Mm) : ceX ad cy M (b + 13) = .inl (cy 1, 5, .inl (M.1 (b + 13))) := by rcases hb with rfl | rfl | rfl <;> rfl
theorem hs_14 {ad : Nat → Nat} {cy : Nat → ClassId} {b : Nat} (hb : isH b) (M : Mm) : ceX ad cy M (b + 14) = .inl (cy 1, 5, .inl (M.1 (b + 14))) := by rcases hb with rfl | rfl | rfl <;> rfl
theorem hs_15 {ad : Nat → Nat} {cy : Nat → ClassId} {b : Nat} (hb : isH b) (M : Mm) : ceX ad cy M (b + 15) = .inl (cy 1, 6, .inl (M.1 (b + 15))) := by rcases hb with rfl | rfl | rfl <;> rfl
theorem hs_16 {ad : Nat → Nat} {cy : Nat → ClassId} {b : Nat} (hb : isH b) (M : Mm) : ceX ad cy M (b + 16) = .inl (cy 1, 6, .inl (M.1 (b + 16))) := by rcases hb with rfl | rfl | rfl <;> rfl
theorem hs_17 {ad : Nat → Nat} {cy : Nat → ClassId} {b : Nat} (hb : isH b) (M : Mm) : ceX ad cy M (b + 17) = .inl (cy 1, 6, .inl (M.1 (b + 17))) := by rcases hb with rfl | rfl | rfl <;> rfl
theorem hs_18 {ad : Nat → Nat} {cy : Nat → ClassId} {b : Nat} (hb : isH b) (M : Mm) : ceX ad cy M (b + 18) = .inl (cy 1, 6, .inl (M.1 (b + 18))) := by rcases hb with rfl | rfl | rfl <;> rfl
theorem ceX_0 {ad : Nat → Nat} {cy : Nat → ClassId} (M : Mm) : ceX ad cy M 0 = .inr (10, [.ref (ad 1), .ref (ad 3), .ref (ad 22), .ref (ad 60), .ref (ad 71), .ref (ad 80), .int (M.1 0 6), .int (M.1 0 7), .int (M.1 0 8)]) := rfl
theorem ceX_1 {ad : Nat → Nat} {cy : Nat → ClassId} (M : Mm) : ceX ad cy M 1 = .inr (5, [.ref (ad 2), .int (M.1 1 1)]) := rfl
theorem ceX_60 {ad : Nat → Nat} {cy : Nat → ClassId} (M : Mm) : ceX ad cy M 60 = .inr (8, [.ref (ad 61), .ref (ad 62), .ref (ad 63), .ref (ad 69), .ref (ad 70), .int (M.1 60 5)]) := rfl
theorem ceX_71 {ad : Nat → Nat} {cy : Nat → ClassId} (M : Mm) : ceX ad cy M 71 = .inr (6, [.ref (ad 72), .ref (ad 78), .ref (ad 79), .int (M.1 71 3), .int (M.1 71 4), .int (M.1 71 5)]) := rfl
theorem ceX_80 {ad : Nat → Nat} {cy : Nat → ClassId} (M : Mm) : ceX ad cy M 80 = .inr (7, [.ref (ad 81), .ref (ad 82), .ref (ad 83), .ref (ad 41), .long (M.2 80 4), .long (M.2 80 5), .int (M.1 80 6), .int (M.1 80 7)]) := rfl
theorem ceX_3 {ad : Nat → Nat} {cy : Nat → ClassId} (M : Mm) : ceX ad cy M 3 = .inr (2, [.ref (ad (3 + 1)), .int (M.1 3 1), .int (M.1 3 2), .int (M.1 3 3), .ref (ad (3 + 7)), .ref (ad (3 + 8)), .ref (ad (3 + 9)), .ref (ad (3 + 10)), .ref (ad (3 + 11)), .ref (ad (3 + 12)), .ref (ad (3 + 13)), .ref (ad (3 + 14)), .int (M.1 3 12), .int (M.1 3 13), .ref (ad (3 + 15)), .ref (ad (3 + 16)), .ref (ad (3 + 17)), .ref (ad (3 + 18))]) := rfl
theorem ceX_5 {ad : Nat → Nat} {cy : Nat → ClassId} (M : Mm) : ceX ad cy M 5 = .inr (1, []) := rfl
theorem ceX_6 {ad : Nat → Nat} {cy : Nat → ClassId} (M : Mm) : ceX ad cy M 6 = .inr (0, []) := rfl
theorem ceX_7 {ad : Nat → Nat} {cy : Nat → ClassId} (M : Mm) : ceX ad cy M 7 = .inr (4, []) := rfl
theorem ceX_8 {ad : Nat → Nat} {cy : Nat → ClassId} (M : Mm) : ceX ad cy M 8 = .inr (9, []) := rfl
theorem ceX_9 {ad : Nat → Nat} {cy : Nat → ClassId} (M : Mm) : ceX ad cy M 9 = .inr (3, []) := rfl
theorem ceX_22 {ad : Nat → Nat} {cy : Nat → ClassId} (M : Mm) : ceX ad cy M 22 = .inr (2, [.ref (ad (22 + 1)), .int (M.1 22 1), .int (M.1 22 2), .int (M.1 22 3), .ref (ad (22 + 7)), .ref (ad (22 + 8)), .ref (ad (22 + 9)), .ref (ad (22 + 10)), .ref (ad (22 + 11)), .ref (ad (22 + 12)), .ref (ad (22 + 13)), .ref (ad (22 + 14)), .int (M.1 22 12), .int (M.1 22 13), .ref (ad (22 + 15)), .ref (ad (22 + 16)), .ref (ad (22 + 17)), .ref (ad (22 + 18))]) := rfl
theorem ceX_24 {ad : Nat → Nat} {cy : Nat → ClassId} (M : Mm) : ceX ad cy M 24 = .inr (1, []) := rfl
theorem ceX_25 {ad : Nat → Nat} {cy : Nat → ClassId} (M : Mm) : ceX ad cy M 25 = .inr (0, []) := rfl
theorem ceX_26 {ad : Nat → Nat} {cy : Nat → ClassId} (M : Mm) : ceX ad cy M 26 = .inr (4, []) := rfl
theorem ceX_27 {ad : Nat → Nat} {cy : Nat → ClassId} (M : Mm) : ceX ad cy M 27 = .inr (9, []) := rfl
theorem ceX_28 {ad : Nat → Nat} {cy : Nat → ClassId} (M : Mm) : ceX ad cy M 28 = .inr (3, []) := rfl
theorem ceX_41 {ad : Nat → Nat} {cy : Nat → ClassId} (M : Mm) : ceX ad cy M 41 = .inr (2, [.ref (ad (41 + 1)), .int (M.1 41 1), .int (M.1 41 2), .int (M.1 41 3), .ref (ad (41 + 7)), .ref (ad (41 + 8)), .ref (ad (41 + 9)), .ref (ad (41 + 10)), .ref (ad (41 + 11)), .ref (ad (41 + 12)), .ref (ad (41 + 13)), .ref (ad (41 + 14)), .int (M.1 41 12), .int (M.1 41 13), .ref (ad (41 + 15)), .ref (ad (41 + 16)), .ref (ad (41 + 17)), .ref (ad (41 + 18))]) := rfl
theorem ceX_43 {ad : Nat → Nat} {cy : Nat → ClassId} (M : Mm) : ceX ad cy M 43 = .inr (1, []) := rfl
theorem ceX_44 {ad : Nat → Nat} {cy : Nat → ClassId} (M : Mm) : ceX ad cy M 44 = .inr (0, []) := rfl
theorem ceX_45 {ad : Nat → Nat} {cy : Nat → ClassId} (M : Mm) : ceX ad cy M 45 = .inr (4, []) := rfl
theorem ceX_46 {ad : Nat → Nat} {cy : Nat → ClassId} (M : Mm) : ceX ad cy M 46 = .inr (9, []) := rfl
theorem ceX_47 {ad : Nat → Nat} {cy : Nat → ClassId} (M : Mm) : ceX ad cy M 47 = .inr (3, []) := rfl
theorem ceM_0 {ad : Nat → Nat} {cy : Nat → ClassId} (M : Mm) : ceM ad cy M 0 = .inr (11, [.int (M.1 0 0), .int (M.1 0 1), .int (M.1 0 2), .int (M.1 0 3), .ref (ad 1), .ref (ad 2), .ref (ad 3), .ref (ad 4), .ref (ad 5), .ref (ad 6), .ref (ad 7), .ref (ad 8), .int (M.1 0 12), .int (M.1 0 13), .int (M.1 0 14), .ref (ad 9), .ref (ad 10), .ref (ad 11), .ref (ad 12), .int (M.1 0 19), .ref (ad 13), .int (M.1 0 21), .int (M.1 0 22), .int (M.1 0 23), .ref (ad 14), .ref (ad 15), .ref (ad 16), .ref (ad 17), .ref (ad 18), .ref (ad 19), .ref (ad 20), .ref (ad 21), .long (M.2 0 32), .ref (ad 22), .ref (ad 23), .int (M.1 0 35), .int (M.1 0 36), .int (M.1 0 37), .int (M.1 0 38), .ref (ad 24), .ref (ad 25), .ref (ad 26), .ref (ad 27), .ref (ad 28), .ref (ad 29), .ref (ad 30), .ref (ad 31), .ref (ad 32), .long (M.2 0 48)]) := rfl
theorem ceX_k0 {ad : Nat → Nat} {cy : Nat → ClassId} {n : Nat} (h : kdX n = 0) (M : Mm) : ceX ad cy M n = .inr (0, []) := by unfold ceX; rw [h]; rfl
theorem ceX_k1 {ad : Nat → Nat} {cy : Nat → ClassId} {n : Nat} (h : kdX n = 1) (M : Mm) : ceX ad cy M n = .inr (1, []) := by unfold ceX; rw [h]; rfl
theorem ceX_k3 {ad : Nat → Nat} {cy : Nat → ClassId} {n : Nat} (h : kdX n = 3) (M : Mm) : ceX ad cy M n = .inr (3, []) := by unfold ceX; rw [h]; rfl
theorem ceX_k4 {ad : Nat → Nat} {cy : Nat → ClassId} {n : Nat} (h : kdX n = 4) (M : Mm) : ceX ad cy M n = .inr (4, []) := by unfold ceX; rw [h]; rfl
theorem ceX_k9 {ad : Nat → Nat} {cy : Nat → ClassId} {n : Nat} (h : kdX n = 9) (M : Mm) : ceX ad cy M n = .inr (9, []) := by unfold ceX; rw [h]; rfl
theorem stXH_1 {ad : Nat → Nat} {cy : Nat → ClassId} {b : Nat} (hb : isH b) (M : Mm) (x : Int32) : ceX ad cy (wI M b (upd (M.1 b) 1 x)) b = .inr (2, [.ref (ad (b + 1)), .int (M.1 b 1), .int (M.1 b 2), .int (M.1 b 3), .ref (ad (b + 7)), .ref (ad (b + 8)), .ref (ad (b + 9)), .ref (ad (b + 10)), .ref (ad (b + 11)), .ref (ad (b + 12)), .ref (ad (b + 13)), .ref (ad (b + 14)), .int (M.1 b 12), .int (M.1 b 13), .ref (ad (b + 15)), .ref (ad (b + 16)), .ref (ad (b + 17)), .ref (ad (b + 18))].set 1 (.int x)) := by rw [ceX_H hb]; simp [wI, va_up, upd]
theorem stXH_2 {ad : Nat → Nat} {cy : Nat → ClassId} {b : Nat} (hb : isH b) (M : Mm) (x : Int32) : ceX ad cy (wI M b (upd (M.1 b) 2 x)) b = .inr (2, [.ref (ad (b + 1)), .int (M.1 b 1), .int (M.1 b 2), .int (M.1 b 3), .ref (ad (b + 7)), .ref (ad (b + 8)), .ref (ad (b + 9)), .ref (ad (b + 10)), .ref (ad (b + 11)), .ref (ad (b + 12)), .ref (ad (b + 13)), .ref (ad (b + 14)), .int (M.1 b 12), .int (M.1 b 13), .ref (ad (b + 15)), .ref (ad (b + 16)), .ref (ad (b + 17)), .ref (ad (b + 18))].set 2 (.int x)) := by rw [ceX_H hb]; simp [wI, va_up, upd]
theorem stXH_3 {ad : Nat → Nat} {cy : Nat → ClassId} {b : Nat} (hb : isH b) (M : Mm) (x : Int32) : ceX ad cy (wI M b (upd (M.1 b) 3 x)) b = .inr (2, [.ref (ad (b + 1)), .int (M.1 b 1), .int (M.1 b 2), .int (M.1 b 3), .ref (ad (b + 7)), .ref (ad (b + 8)), .ref (ad (b + 9)), .ref (ad (b + 10)), .ref (ad (b + 11)), .ref (ad (b + 12)), .ref (ad (b + 13)), .ref (ad (b + 14)), .int (M.1 b 12), .int (M.1 b 13), .ref (ad (b + 15)), .ref (ad (b + 16)), .ref (ad (b + 17)), .ref (ad (b + 18))].set 3 (.int x)) := by rw [ceX_H hb]; simp [wI, va_up, upd]
theorem stXH_12 {ad : Nat → Nat} {cy : Nat → ClassId} {b : Nat} (hb : isH b) (M : Mm) (x : Int32) : ceX ad cy (wI M b (upd (M.1 b) 12 x)) b = .inr (2, [.ref (ad (b + 1)), .int (M.1 b 1), .int (M.1 b 2), .int (M.1 b 3), .ref (ad (b + 7)), .ref (ad (b + 8)), .ref (ad (b + 9)), .ref (ad (b + 10)), .ref (ad (b + 11)), .ref (ad (b + 12)), .ref (ad (b + 13)), .ref (ad (b + 14)), .int (M.1 b 12), .int (M.1 b 13), .ref (ad (b + 15)), .ref (ad (b + 16)), .ref (ad (b + 17)), .ref (ad (b + 18))].set 12 (.int x)) := by rw [ceX_H hb]; simp [wI, va_up, upd]
theorem stXH_13 {ad : Nat → Nat} {cy : Nat → ClassId} {b : Nat} (hb : isH b) (M : Mm) (x : Int32) : ceX ad cy (wI M b (upd (M.1 b) 13 x)) b = .inr (2, [.ref (ad (b + 1)), .int (M.1 b 1), .int (M.1 b 2), .int (M.1 b 3), .ref (ad (b + 7)), .ref (ad (b + 8)), .ref (ad (b + 9)), .ref (ad (b + 10)), .ref (ad (b + 11)), .ref (ad (b + 12)), .ref (ad (b + 13)), .ref (ad (b + 14)), .int (M.1 b 12), .int (M.1 b 13), .ref (ad (b + 15)), .ref (ad (b + 16)), .ref (ad (b + 17)), .ref (ad (b + 18))].set 13 (.int x)) := by rw [ceX_H hb]; simp [wI, va_up, upd]
theorem stX3_1 {ad : Nat → Nat} {cy : Nat → ClassId} (M : Mm) (x : Int32) : ceX ad cy (wI M 3 (upd (M.1 3) 1 x)) 3 = .inr (2, [.ref (ad (3 + 1)), .int (M.1 3 1), .int (M.1 3 2), .int (M.1 3 3), .ref (ad (3 + 7)), .ref (ad (3 + 8)), .ref (ad (3 + 9)), .ref (ad (3 + 10)), .ref (ad (3 + 11)), .ref (ad (3 + 12)), .ref (ad (3 + 13)), .ref (ad (3 + 14)), .int (M.1 3 12), .int (M.1 3 13), .ref (ad (3 + 15)), .ref (ad (3 + 16)), .ref (ad (3 + 17)), .ref (ad (3 + 18))].set 1 (.int x)) := by rw [ceX_3]; simp [wI, va_up, upd]
theorem stX3_2 {ad : Nat → Nat} {cy : Nat → ClassId} (M : Mm) (x : Int32) : ceX ad cy (wI M 3 (upd (M.1 3) 2 x)) 3 = .inr (2, [.ref (ad (3 + 1)), .int (M.1 3 1), .int (M.1 3 2), .int (M.1 3 3), .ref (ad (3 + 7)), .ref (ad (3 + 8)), .ref (ad (3 + 9)), .ref (ad (3 + 10)), .ref (ad (3 + 11)), .ref (ad (3 + 12)), .ref (ad (3 + 13)), .ref (ad (3 + 14)), .int (M.1 3 12), .int (M.1 3 13), .ref (ad (3 + 15)), .ref (ad (3 + 16)), .ref (ad (3 + 17)), .ref (ad (3 + 18))].set 2 (.int x)) := by rw [ceX_3]; simp [wI, va_up, upd]
theorem stX3_3 {ad : Nat → Nat} {cy : Nat → ClassId} (M : Mm) (x : Int32) : ceX ad cy (wI M 3 (upd (M.1 3) 3 x)) 3 = .inr (2, [.ref (ad (3 + 1)), .int (M.1 3 1), .int (M.1 3 2), .int (M.1 3 3), .ref (ad (3 + 7)), .ref (ad (3 + 8)), .ref (ad (3 + 9)), .ref (ad (3 + 10)), .ref (ad (3 + 11)), .ref (ad (3 + 12)), .ref (ad (3 + 13)), .ref (ad (3 + 14)), .int (M.1 3 12), .int (M.1 3 13), .ref (ad (3 + 15)), .ref (ad (3 + 16)), .ref (ad (3 + 17)), .ref (ad (3 + 18))].set 3 (.int x)) := by rw [ceX_3]; simp [wI, va_up, upd]
theorem stX3_12 {ad : Nat → Nat} {cy : Nat → ClassId} (M : Mm) (x : Int32) : ceX ad cy (wI M 3 (upd (M.1 3) 12 x)) 3 = .inr (2, [.ref (ad (3 + 1)), .int (M.1 3 1), .int (M.1 3 2), .int (M.1 3 3), .ref (ad (3 + 7)), .ref (ad (3 + 8)), .ref (ad (3 + 9)), .ref (ad (3 + 10)), .ref (ad (3 + 11)), .ref (ad (3 + 12)), .ref (ad (3 + 13)), .ref (ad (3 + 14)), .int (M.1 3 12), .int (M.1 3 13), .ref (ad (3 + 15)), .ref (ad (3 + 16)), .ref (ad (3 + 17)), .ref (ad (3 + 18))].set 12 (.int x)) := by rw [ceX_3]; simp [wI, va_up, upd]
theorem stX3_13 {ad : Nat → Nat} {cy : Nat → ClassId} (M : Mm) (x : Int32) : ceX ad cy (wI M 3 (upd (M.1 3) 13 x)) 3 = .inr (2, [.ref (ad (3 + 1)), .int (M.1 3 1), .int (M.1 3 2), .int (M.1 3 3), .ref (ad (3 + 7)), .ref (ad (3 + 8)), .ref (ad (3 + 9)), .ref (ad (3 + 10)), .ref (ad (3 + 11)), .ref (ad (3 + 12)), .ref (ad (3 + 13)), .ref (ad (3 + 14)), .int (M.1 3 12), .int (M.1 3 13), .ref (ad (3 + 15)), .ref (ad (3 + 16)), .ref (ad (3 + 17)), .ref (ad (3 + 18))].set 13 (.int x)) := by rw [ceX_3]; simp [wI, va_up, upd]
theorem stX22_1 {ad : Nat → Nat} {cy : Nat → ClassId} (M : Mm) (x : Int32) : ceX ad cy (wI M 22 (upd (M.1 22) 1 x)) 22 = .inr (2, [.ref (ad (22 + 1)), .int (M.1 22 1), .int (M.1 22 2), .int (M.1 22 3), .ref (ad (22 + 7)), .ref (ad (22 + 8)), .ref (ad (22 + 9)), .ref (ad (22 + 10)), .ref (ad (22 + 11)), .ref (ad (22 + 12)), .ref (ad (22 + 13)), .ref (ad (22 + 14)), .int (M.1 22 12), .int (M.1 22 13), .ref (ad (22 + 15)), .ref (ad (22 + 16)), .ref (ad (22 + 17)), .ref (ad (22 + 18))].set 1 (.int x)) := by rw [ceX_22]; simp [wI, va_up, upd]
theorem stX22_2 {ad : Nat → Nat} {cy : Nat → ClassId} (M : Mm) (x : Int32) : ceX ad cy (wI M 22 (upd (M.1 22) 2 x)) 22 = .inr (2, [.ref (ad (22 + 1)), .int (M.1 22 1), .int (M.1 22 2), .int (M.1 22 3), .ref (ad (22 + 7)), .ref (ad (22 + 8)), .ref (ad (22 + 9)), .ref (ad (22 + 10)), .ref (ad (22 + 11)), .ref (ad (22 + 12)), .ref (ad (22 + 13)), .ref (ad (22 + 14)), .int (M.1 22 12), .int (M.1 22 13), .ref (ad (22 + 15)), .ref (ad (22 + 16)), .ref (ad (22 + 17)), .ref (ad (22 + 18))].set 2 (.int x)) := by rw [ceX_22]; simp [wI, va_up, upd]
theorem stX22_3 {ad : Nat → Nat} {cy : Nat → ClassId} (M : Mm) (x : Int32) : ceX ad cy (wI M 22 (upd (M.1 22) 3 x)) 22 = .inr (2, [.ref (ad (22 + 1)), .int (M.1 22 1), .int (M.1 22 2), .int (M.1 22 3), .ref (ad (22 + 7)), .ref (ad (22 + 8)), .ref (ad (22 + 9)), .ref (ad (22 + 10)), .ref (ad (22 + 11)), .ref (ad (22 + 12)), .ref (ad (22 + 13)), .ref (ad (22 + 14)), .int (M.1 22 12), .int (M.1 22 13), .ref (ad (22 + 15)), .ref (ad (22 + 16)), .ref (ad (22 + 17)), .ref (ad (22 + 18))].set 3 (.int x)) := by rw [ceX_22]; simp [wI, va_up, upd]
theorem stX22_12 {ad : Nat → Nat} {cy : Nat → ClassId} (M : Mm) (x : Int32) : ceX ad cy (wI M 22 (upd (M.1 22) 12 x)) 22 = .inr (2, [.ref (ad (22 + 1)), .int (M.1 22 1), .int (M.1 22 2), .int (M.1 22 3), .ref (ad (22 + 7)), .ref (ad (22 + 8)), .ref (ad (22 + 9)), .ref (ad (22 + 10)), .ref (ad (22 + 11)), .ref (ad (22 + 12)), .ref (ad (22 + 13)), .ref (ad (22 + 14)), .int (M.1 22 12), .int (M.1 22 13), .ref (ad (22 + 15)), .ref (ad (22 + 16)), .ref (ad (22 + 17)), .ref (ad (22 + 18))].set 12 (.int x)) := by rw [ceX_22]; simp [wI, va_up, upd]
theorem stX22_13 {ad : Nat → Nat} {cy : Nat → ClassId} (M : Mm) (x : Int32) : ceX ad cy (wI M 22 (upd (M.1 22) 13 x)) 22 = .inr (2, [.ref (ad (22 + 1)), .int (M.1 22 1), .int (M.1 22 2), .int (M.1 22 3), .ref (ad (22 + 7)), .ref (ad (22 + 8)), .ref (ad (22 + 9)), .ref (ad (22 + 10)), .ref (ad (22 + 11)), .ref (ad (22 + 12)), .ref (ad (22 + 13)), .ref (ad (22 + 14)), .int (M.1 22 12), .int (M.1 22 13), .ref (ad (22 + 15)), .ref (ad (22 + 16)), .ref (ad (22 + 17)), .ref (ad (22 + 18))].set 13 (.int x)) := by rw [ceX_22]; simp [wI, va_up, upd]
theorem stX41_1 {ad : Nat → Nat} {cy : Nat → ClassId} (M : Mm) (x : Int32) : ceX ad cy (wI M 41 (upd (M.1 41) 1 x)) 41 = .inr (2, [.ref (ad (41 + 1)), .int (M.1 41 1), .int (M.1 41 2), .int (M.1 41 3), .ref (ad (41 + 7)), .ref (ad (41 + 8)), .ref (ad (41 + 9)), .ref (ad (41 + 10)), .ref (ad (41 + 11)), .ref (ad (41 + 12)), .ref (ad (41 + 13)), .ref (ad (41 + 14)), .int (M.1 41 12), .int (M.1 41 13), .ref (ad (41 + 15)), .ref (ad (41 + 16)), .ref (ad (41 + 17)), .ref (ad (41 + 18))].set 1 (.int x)) := by rw [ceX_41]; simp [wI, va_up, upd]
theorem stX41_2 {ad : Nat → Nat} {cy : Nat → ClassId} (M : Mm) (x : Int32) : ceX ad cy (wI M 41 (upd (M.1 41) 2 x)) 41 = .inr (2, [.ref (ad (41 + 1)), .int (M.1 41 1), .int (M.1 41 2), .int (M.1 41 3), .ref (ad (41 + 7)), .ref (ad (41 + 8)), .ref (ad (41 + 9)), .ref (ad (41 + 10)), .ref (ad (41 + 11)), .ref (ad (41 + 12)), .ref (ad (41 + 13)), .ref (ad (41 + 14)), .int (M.1 41 12), .int (M.1 41 13), .ref (ad (41 + 15)), .ref (ad (41 + 16)), .ref (ad (41 + 17)), .ref (ad (41 + 18))].set 2 (.int x)) := by rw [ceX_41]; simp [wI, va_up, upd]
theorem stX41_3 {ad : Nat → Nat} {cy : Nat → ClassId} (M : Mm) (x : Int32) : ceX ad cy (wI M 41 (upd (M.1 41) 3 x)) 41 = .inr (2, [.ref (ad (41 + 1)), .int (M.1 41 1), .int (M.1 41 2), .int (M.1 41 3), .ref (ad (41 + 7)), .ref (ad (41 + 8)), .ref (ad (41 + 9)), .ref (ad (41 + 10)), .ref (ad (41 + 11)), .ref (ad (41 + 12)), .ref (ad (41 + 13)), .ref (ad (41 + 14)), .int (M.1 41 12), .int (M.1 41 13), .ref (ad (41 + 15)), .ref (ad (41 + 16)), .ref (ad (41 + 17)), .ref (ad (41 + 18))].set 3 (.int x)) := by rw [ceX_41]; simp [wI, va_up, upd]
theorem stX41_12 {ad : Nat → Nat} {cy : Nat → ClassId} (M : Mm) (x : Int32) : ceX ad cy (wI M 41 (upd (M.1 41) 12 x)) 41 = .inr (2, [.ref (ad (41 + 1)), .int (M.1 41 1), .int (M.1 41 2), .int (M.1 41 3), .ref (ad (41 + 7)), .ref (ad (41 + 8)), .ref (ad (41 + 9)), .ref (ad (41 + 10)), .ref (ad (41 + 11)), .ref (ad (41 + 12)), .ref (ad (41 + 13)), .ref (ad (41 + 14)), .int (M.1 41 12), .int (M.1 41 13), .ref (ad (41 + 15)), .ref (ad (41 + 16)), .ref (ad (41 + 17)), .ref (ad (41 + 18))].set 12 (.int x)) := by rw [ceX_41]; simp [wI, va_up, upd]
theorem stX41_13 {ad : Nat → Nat} {cy : Nat → ClassId} (M : Mm) (x : Int32) : ceX ad cy (wI M 41 (upd (M.1 41) 13 x)) 41 = .inr (2, [.ref (ad (41 + 1)), .int (M.1 41 1), .int (M.1 41 2), .int (M.1 41 3), .ref (ad (41 + 7)), .ref (ad (41 + 8)), .ref (ad (41 + 9)), .ref (ad (41 + 10)), .ref (ad (41 + 11)), .ref (ad (41 + 12)), .ref (ad (41 + 13)), .ref (ad (41 + 14)), .int (M.1 41 12), .int (M.1 41 13), .ref (ad (41 + 15)), .ref (ad (41 + 16)), .ref (ad (41 + 17)), .ref (ad (41 + 18))].set 13 (.int x)) := by rw [ceX_41]; simp [wI, va_up, upd]
theorem stX0_6 {ad : Nat → Nat} {cy : Nat → ClassId} (M : Mm) (x : Int32) : ceX ad cy (wI M 0 (upd (M.1 0) 6 x)) 0 = .inr (10, [.ref (ad 1), .ref (ad 3), .ref (ad 22), .ref (ad 60), .ref (ad 71), .ref (ad 80), .int (M.1 0 6), .int (M.1 0 7), .int (M.1 0 8)].set 6 (.int x)) := by rw [ceX_0]; simp [wI, va_up, upd]
theorem stX0_7 {ad : Nat → Nat} {cy : Nat → ClassId} (M : Mm) (x : Int32) : ceX ad cy (wI M 0 (upd (M.1 0) 7 x)) 0 = .inr (10, [.ref (ad 1), .ref (ad 3), .ref (ad 22), .ref (ad 60), .ref (ad 71), .ref (ad 80), .int (M.1 0 6), .int (M.1 0 7), .int (M.1 0 8)].set 7 (.int x)) := by rw [ceX_0]; simp [wI, va_up, upd]
theorem stX0_8 {ad : Nat → Nat} {cy : Nat → ClassId} (M : Mm) (x : Int32) : ceX ad cy (wI M 0 (upd (M.1 0) 8 x)) 0 = .inr (10, [.ref (ad 1), .ref (ad 3), .ref (ad 22), .ref (ad 60), .ref (ad 71), .ref (ad 80), .int (M.1 0 6), .int (M.1 0 7), .int (M.1 0 8)].set 8 (.int x)) := by rw [ceX_0]; simp [wI, va_up, upd]
theorem stX1_1 {ad : Nat → Nat} {cy : Nat → ClassId} (M : Mm) (x : Int32) : ceX ad cy (wI M 1 (upd (M.1 1) 1 x)) 1 = .inr (5, [.ref (ad 2), .int (M.1 1 1)].set 1 (.int x)) := by rw [ceX_1]; simp [wI, va_up, upd]
theorem stX60_5 {ad : Nat → Nat} {cy : Nat → ClassId} (M : Mm) (x : Int32) : ceX ad cy (wI M 60 (upd (M.1 60) 5 x)) 60 = .inr (8, [.ref (ad 61), .ref (ad 62), .ref (ad 63), .ref (ad 69), .ref (ad 70), .int (M.1 60 5)].set 5 (.int x)) := by rw [ceX_60]; simp [wI, va_up, upd]
theorem stX71_3 {ad : Nat → Nat} {cy : Nat → ClassId} (M : Mm) (x : Int32) : ceX ad cy (wI M 71 (upd (M.1 71) 3 x)) 71 = .inr (6, [.ref (ad 72), .ref (ad 78), .ref (ad 79), .int (M.1 71 3), .int (M.1 71 4), .int (M.1 71 5)].set 3 (.int x)) := by rw [ceX_71]; simp [wI, va_up, upd]
theorem stX71_4 {ad : Nat → Nat} {cy : Nat → ClassId} (M : Mm) (x : Int32) : ceX ad cy (wI M 71 (upd (M.1 71) 4 x)) 71 = .inr (6, [.ref (ad 72), .ref (ad 78), .ref (ad 79), .int (M.1 71 3), .int (M.1 71 4), .int (M.1 71 5)].set 4 (.int x)) := by rw [ceX_71]; simp [wI, va_up, upd]
theorem stX71_5 {ad : Nat → Nat} {cy : Nat → ClassId} (M : Mm) (x : Int32) : ceX ad cy (wI M 71 (upd (M.1 71) 5 x)) 71 = .inr (6, [.ref (ad 72), .ref (ad 78), .ref (ad 79), .int (M.1 71 3), .int (M.1 71 4), .int (M.1 71 5)].set 5 (.int x)) := by rw [ceX_71]; simp [wI, va_up, upd]
theorem stX80_4 {ad : Nat → Nat} {cy : Nat → ClassId} (M : Mm) (x : Int64) : ceX ad cy (wJ M 80 (vp_updL (M.2 80) 4 x)) 80 = .inr (7, [.ref (ad 81), .ref (ad 82), .ref (ad 83), .ref (ad 41), .long (M.2 80 4), .long (M.2 80 5), .int (M.1 80 6), .int (M.1 80 7)].set 4 (.long x)) := by rw [ceX_80]; simp [wJ, va_up, vp_updL]
theorem stX80_5 {ad : Nat → Nat} {cy : Nat → ClassId} (M : Mm) (x : Int64) : ceX ad cy (wJ M 80 (vp_updL (M.2 80) 5 x)) 80 = .inr (7, [.ref (ad 81), .ref (ad 82), .ref (ad 83), .ref (ad 41), .long (M.2 80 4), .long (M.2 80 5), .int (M.1 80 6), .int (M.1 80 7)].set 5 (.long x)) := by rw [ceX_80]; simp [wJ, va_up, vp_updL]
theorem stX80_6 {ad : Nat → Nat} {cy : Nat → ClassId} (M : Mm) (x : Int32) : ceX ad cy (wI M 80 (upd (M.1 80) 6 x)) 80 = .inr (7, [.ref (ad 81), .ref (ad 82), .ref (ad 83), .ref (ad 41), .long (M.2 80 4), .long (M.2 80 5), .int (M.1 80 6), .int (M.1 80 7)].set 6 (.int x)) := by rw [ceX_80]; simp [wI, va_up, upd]
theorem stX80_7 {ad : Nat → Nat} {cy : Nat → ClassId} (M : Mm) (x : Int32) : ceX ad cy (wI M 80 (upd (M.1 80) 7 x)) 80 = .inr (7, [.ref (ad 81), .ref (ad 82), .ref (ad 83), .ref (ad 41), .long (M.2 80 4), .long (M.2 80 5), .int (M.1 80 6), .int (M.1 80 7)].set 7 (.int x)) := by rw [ceX_80]; simp [wI, va_up, upd]
theorem stM0_0 {ad : Nat → Nat} {cy : Nat → ClassId} (M : Mm) (x : Int32) : ceM ad cy (wI M 0 (upd (M.1 0) 0 x)) 0 = .inr (11, [.int (M.1 0 0), .int (M.1 0 1), .int (M.1 0 2), .int (M.1 0 3), .ref (ad 1), .ref (ad 2), .ref (ad 3), .ref (ad 4), .ref (ad 5), .ref (ad 6), .ref (ad 7), .ref (ad 8), .int (M.1 0 12), .int (M.1 0 13), .int (M.1 0 14), .ref (ad 9), .ref (ad 10), .ref (ad 11), .ref (ad 12), .int (M.1 0 19), .ref (ad 13), .int (M.1 0 21), .int (M.1 0 22), .int (M.1 0 23), .ref (ad 14), .ref (ad 15), .ref (ad 16), .ref (ad 17), .ref (ad 18), .ref (ad 19), .ref (ad 20), .ref (ad 21), .long (M.2 0 32), .ref (ad 22), .ref (ad 23), .int (M.1 0 35), .int (M.1 0 36), .int (M.1 0 37), .int (M.1 0 38), .ref (ad 24), .ref (ad 25), .ref (ad 26), .ref (ad 27), .ref (ad 28), .ref (ad 29), .ref (ad 30), .ref (ad 31), .ref (ad 32), .long (M.2 0 48)].set 0 (.int x)) := by rw [ceM_0]; simp [wI, va_up, upd]
theorem stM0_1 {ad : Nat → Nat} {cy : Nat → ClassId} (M : Mm) (x : Int32) : ceM ad cy (wI M 0 (upd (M.1 0) 1 x)) 0 = .inr (11, [.int (M.1 0 0), .int (M.1 0 1), .int (M.1 0 2), .int (M.1 0 3), .ref (ad 1), .ref (ad 2), .ref (ad 3), .ref (ad 4), .ref (ad 5), .ref (ad 6), .ref (ad 7), .ref (ad 8), .int (M.1 0 12), .int (M.1 0 13), .int (M.1 0 14), .ref (ad 9), .ref (ad 10), .ref (ad 11), .ref (ad 12), .int (M.1 0 19), .ref (ad 13), .int (M.1 0 21), .int (M.1 0 22), .int (M.1 0 23), .ref (ad 14), .ref (ad 15), .ref (ad 16), .ref (ad 17), .ref (ad 18), .ref (ad 19), .ref (ad 20), .ref (ad 21), .long (M.2 0 32), .ref (ad 22), .ref (ad 23), .int (M.1 0 35), .int (M.1 0 36), .int (M.1 0 37), .int (M.1 0 38), .ref (ad 24), .ref (ad 25), .ref (ad 26), .ref (ad 27), .ref (ad 28), .ref (ad 29), .ref (ad 30), .ref (ad 31), .ref (ad 32), .long (M.2 0 48)].set 1 (.int x)) := by rw [ceM_0]; simp [wI, va_up, upd]
theorem stM0_2 {ad : Nat → Nat} {cy : Nat → ClassId} (M : Mm) (x : Int32) : ceM ad cy (wI M 0 (upd (M.1 0) 2 x)) 0 = .inr (11, [.int (M.1 0 0), .int (M.1 0 1), .int (M.1 0 2), .int (M.1 0 3), .ref (ad 1), .ref (ad 2), .ref (ad 3), .ref (ad 4), .ref (ad 5), .ref (ad 6), .ref (ad 7), .ref (ad 8), .int (M.1 0 12), .int (M.1 0 13), .int (M.1 0 14), .ref (ad 9), .ref (ad 10), .ref (ad 11), .ref (ad 12), .int (M.1 0 19), .ref (ad 13), .int (M.1 0 21), .int (M.1 0 22), .int (M.1 0 23), .ref (ad 14), .ref (ad 15), .ref (ad 16), .ref (ad 17), .ref (ad 18), .ref (ad 19), .ref (ad 20), .ref (ad 21), .long (M.2 0 32), .ref (ad 22), .ref (ad 23), .int (M.1 0 35), .int (M.1 0 36), .int (M.1 0 37), .int (M.1 0 38), .ref (ad 24), .ref (ad 25), .ref (ad 26), .ref (ad 27), .ref (ad 28), .ref (ad 29), .ref (ad 30), .ref (ad 31), .ref (ad 32), .long (M.2 0 48)].set 2 (.int x)) := by rw [ceM_0]; simp [wI, va_up, upd]
theorem stM0_3 {ad : Nat → Nat} {cy : Nat → ClassId} (M : Mm) (x : Int32) : ceM ad cy (wI M 0 (upd (M.1 0) 3 x)) 0 = .inr (11, [.int (M.1 0 0), .int (M.1 0 1), .int (M.1 0 2), .int (M.1 0 3), .ref (ad 1), .ref (ad 2), .ref (ad 3), .ref (ad 4), .ref (ad 5), .ref (ad 6), .ref (ad 7), .ref (ad 8), .int (M.1 0 12), .int (M.1 0 13), .int (M.1 0 14), .ref (ad 9), .ref (ad 10), .ref (ad 11), .ref (ad 12), .int (M.1 0 19), .ref (ad 13), .int (M.1 0 21), .int (M.1 0 22), .int (M.1 0 23), .ref (ad 14), .ref (ad 15), .ref (ad 16), .ref (ad 17), .ref (ad 18), .ref (ad 19), .ref (ad 20), .ref (ad 21), .long (M.2 0 32), .ref (ad 22), .ref (ad 23), .int (M.1 0 35), .int (M.1 0 36), .int (M.1 0 37), .int (M.1 0 38), .ref (ad 24), .ref (ad 25), .ref (ad 26), .ref (ad 27), .ref (ad 28), .ref (ad 29), .ref (ad 30), .ref (ad 31), .ref (ad 32), .long (M.2 0 48)].set 3 (.int x)) := by rw [ceM_0]; simp [wI, va_up, upd]
theorem stM0_12 {ad : Nat → Nat} {cy : Nat → ClassId} (M : Mm) (x : Int32) : ceM ad cy (wI M 0 (upd (M.1 0) 12 x)) 0 = .inr (11, [.int (M.1 0 0), .int (M.1 0 1), .int (M.1 0 2), .int (M.1 0 3), .ref (ad 1), .ref (ad 2), .ref (ad 3), .ref (ad 4), .ref (ad 5), .ref (ad 6), .ref (ad 7), .ref (ad 8), .int (M.1 0 12), .int (M.1 0 13), .int (M.1 0 14), .ref (ad 9), .ref (ad 10), .ref (ad 11), .ref (ad 12), .int (M.1 0 19), .ref (ad 13), .int (M.1 0 21), .int (M.1 0 22), .int (M.1 0 23), .ref (ad 14), .ref (ad 15), .ref (ad 16), .ref (ad 17), .ref (ad 18), .ref (ad 19), .ref (ad 20), .ref (ad 21), .long (M.2 0 32), .ref (ad 22), .ref (ad 23), .int (M.1 0 35), .int (M.1 0 36), .int (M.1 0 37), .int (M.1 0 38), .ref (ad 24), .ref (ad 25), .ref (ad 26), .ref (ad 27), .ref (ad 28), .ref (ad 29), .ref (ad 30), .ref (ad 31), .ref (ad 32), .long (M.2 0 48)].set 12 (.int x)) := by rw [ceM_0]; simp [wI, va_up, upd]
theorem stM0_13 {ad : Nat → Nat} {cy : Nat → ClassId} (M : Mm) (x : Int32) : ceM ad cy (wI M 0 (upd (M.1 0) 13 x)) 0 = .inr (11, [.int (M.1 0 0), .int (M.1 0 1), .int (M.1 0 2), .int (M.1 0 3), .ref (ad 1), .ref (ad 2), .ref (ad 3), .ref (ad 4), .ref (ad 5), .ref (ad 6), .ref (ad 7), .ref (ad 8), .int (M.1 0 12), .int (M.1 0 13), .int (M.1 0 14), .ref (ad 9), .ref (ad 10), .ref (ad 11), .ref (ad 12), .int (M.1 0 19), .ref (ad 13), .int (M.1 0 21), .int (M.1 0 22), .int (M.1 0 23), .ref (ad 14), .ref (ad 15), .ref (ad 16), .ref (ad 17), .ref (ad 18), .ref (ad 19), .ref (ad 20), .ref (ad 21), .long (M.2 0 32), .ref (ad 22), .ref (ad 23), .int (M.1 0 35), .int (M.1 0 36), .int (M.1 0 37), .int (M.1 0 38), .ref (ad 24), .ref (ad 25), .ref (ad 26), .ref (ad 27), .ref (ad 28), .ref (ad 29), .ref (ad 30), .ref (ad 31), .ref (ad 32), .long (M.2 0 48)].set 13 (.int x)) := by rw [ceM_0]; simp [wI, va_up, upd]
theorem stM0_14 {ad : Nat → Nat} {cy : Nat → ClassId} (M : Mm) (x : Int32) : ceM ad cy (wI M 0 (upd (M.1 0) 14 x)) 0 = .inr (11, [.int (M.1 0 0), .int (M.1 0 1), .int (M.1 0 2), .int (M.1 0 3), .ref (ad 1), .ref (ad 2), .ref (ad 3), .ref (ad 4), .ref (ad 5), .ref (ad 6), .ref (ad 7), .ref (ad 8), .int (M.1 0 12), .int (M.1 0 13), .int (M.1 0 14), .ref (ad 9), .ref (ad 10), .ref (ad 11), .ref (ad 12), .int (M.1 0 19), .ref (ad 13), .int (M.1 0 21), .int (M.1 0 22), .int (M.1 0 23), .ref (ad 14), .ref (ad 15), .ref (ad 16), .ref (ad 17), .ref (ad 18), .ref (ad 19), .ref (ad 20), .ref (ad 21), .long (M.2 0 32), .ref (ad 22), .ref (ad 23), .int (M.1 0 35), .int (M.1 0 36), .int (M.1 0 37), .int (M.1 0 38), .ref (ad 24), .ref (ad 25), .ref (ad 26), .ref (ad 27), .ref (ad 28), .ref (ad 29), .ref (ad 30), .ref (ad 31), .ref (ad 32), .long (M.2 0 48)].set 14 (.int x)) := by rw [ceM_0]; simp [wI, va_up, upd]
theorem stM0_19 {ad : Nat → Nat} {cy : Nat → ClassId} (M : Mm) (x : Int32) : ceM ad cy (wI M 0 (upd (M.1 0) 19 x)) 0 = .inr (11, [.int (M.1 0 0), .int (M.1 0 1), .int (M.1 0 2), .int (M.1 0 3), .ref (ad 1), .ref (ad 2), .ref (ad 3), .ref (ad 4), .ref (ad 5), .ref (ad 6), .ref (ad 7), .ref (ad 8), .int (M.1 0 12), .int (M.1 0 13), .int (M.1 0 14), .ref (ad 9), .ref (ad 10), .ref (ad 11), .ref (ad 12), .int (M.1 0 19), .ref (ad 13), .int (M.1 0 21), .int (M.1 0 22), .int (M.1 0 23), .ref (ad 14), .ref (ad 15), .ref (ad 16), .ref (ad 17), .ref (ad 18), .ref (ad 19), .ref (ad 20), .ref (ad 21), .long (M.2 0 32), .ref (ad 22), .ref (ad 23), .int (M.1 0 35), .int (M.1 0 36), .int (M.1 0 37), .int (M.1 0 38), .ref (ad 24), .ref (ad 25), .ref (ad 26), .ref (ad 27), .ref (ad 28), .ref (ad 29), .ref (ad 30), .ref (ad 31), .ref (ad 32), .long (M.2 0 48)].set 19 (.int x)) := by rw [ceM_0]; simp [wI, va_up, upd]
theorem stM0_21 {ad : Nat → Nat} {cy : Nat → ClassId} (M : Mm) (x : Int32) : ceM ad cy (wI M 0 (upd (M.1 0) 21 x)) 0 = .inr (11, [.int (M.1 0 0), .int (M.1 0 1), .int (M.1 0 2), .int (M.1 0 3), .ref (ad 1), .ref (ad 2), .ref (ad 3), .ref (ad 4), .ref (ad 5), .ref (ad 6), .ref (ad 7), .ref (ad 8), .int (M.1 0 12), .int (M.1 0 13), .int (M.1 0 14), .ref (ad 9), .ref (ad 10), .ref (ad 11), .ref (ad 12), .int (M.1 0 19), .ref (ad 13), .int (M.1 0 21), .int (M.1 0 22), .int (M.1 0 23), .ref (ad 14), .ref (ad 15), .ref (ad 16), .ref (ad 17), .ref (ad 18), .ref (ad 19), .ref (ad 20), .ref (ad 21), .long (M.2 0 32), .ref (ad 22), .ref (ad 23), .int (M.1 0 35), .int (M.1 0 36), .int (M.1 0 37), .int (M.1 0 38), .ref (ad 24), .ref (ad 25), .ref (ad 26), .ref (ad 27), .ref (ad 28), .ref (ad 29), .ref (ad 30), .ref (ad 31), .ref (ad 32), .long (M.2 0 48)].set 21 (.int x)) := by rw [ceM_0]; simp [wI, va_up, upd]
theorem stM0_22 {ad : Nat → Nat} {cy : Nat → ClassId} (M : Mm) (x : Int32) : ceM ad cy (wI M 0 (upd (M.1 0) 22 x)) 0 = .inr (11, [.int (M.1 0 0), .int (M.1 0 1), .int (M.1 0 2), .int (M.1 0 3), .ref (ad 1), .ref (ad 2), .ref (ad 3), .ref (ad 4), .ref (ad 5), .ref (ad 6), .ref (ad 7), .ref (ad 8), .int (M.1 0 12), .int (M.1 0 13), .int (M.1 0 14), .ref (ad 9), .ref (ad 10), .ref (ad 11), .ref (ad 12), .int (M.1 0 19), .ref (ad 13), .int (M.1 0 21), .int (M.1 0 22), .int (M.1 0 23), .ref (ad 14), .ref (ad 15), .ref (ad 16), .ref (ad 17), .ref (ad 18), .ref (ad 19), .ref (ad 20), .ref (ad 21), .long (M.2 0 32), .ref (ad 22), .ref (ad 23), .int (M.1 0 35), .int (M.1 0 36), .int (M.1 0 37), .int (M.1 0 38), .ref (ad 24), .ref (ad 25), .ref (ad 26), .ref (ad 27), .ref (ad 28), .ref (ad 29), .ref (ad 30), .ref (ad 31), .ref (ad 32), .long (M.2 0 48)].set 22 (.int x)) := by rw [ceM_0]; simp [wI, va_up, upd]
theorem stM0_23 {ad : Nat → Nat} {cy : Nat → ClassId} (M : Mm) (x : Int32) : ceM ad cy (wI M 0 (upd (M.1 0) 23 x)) 0 = .inr (11, [.int (M.1 0 0), .int (M.1 0 1), .int (M.1 0 2), .int (M.1 0 3), .ref (ad 1), .ref (ad 2), .ref (ad 3), .ref (ad 4), .ref (ad 5), .ref (ad 6), .ref (ad 7), .ref (ad 8), .int (M.1 0 12), .int (M.1 0 13), .int (M.1 0 14), .ref (ad 9), .ref (ad 10), .ref (ad 11), .ref (ad 12), .int (M.1 0 19), .ref (ad 13), .int (M.1 0 21), .int (M.1 0 22), .int (M.1 0 23), .ref (ad 14), .ref (ad 15), .ref (ad 16), .ref (ad 17), .ref (ad 18), .ref (ad 19), .ref (ad 20), .ref (ad 21), .long (M.2 0 32), .ref (ad 22), .ref (ad 23), .int (M.1 0 35), .int (M.1 0 36), .int (M.1 0 37), .int (M.1 0 38), .ref (ad 24), .ref (ad 25), .ref (ad 26), .ref (ad 27), .ref (ad 28), .ref (ad 29), .ref (ad 30), .ref (ad 31), .ref (ad 32), .long (M.2 0 48)].set 23 (.int x)) := by rw [ceM_0]; simp [wI, va_up, upd]
theorem stM0_32 {ad : Nat → Nat} {cy : Nat → ClassId} (M : Mm) (x : Int64) : ceM ad cy (wJ M 0 (vp_updL (M.2 0) 32 x)) 0 = .inr (11, [.int (M.1 0 0), .int (M.1 0 1), .int (M.1 0 2), .int (M.1 0 3), .ref (ad 1), .ref (ad 2), .ref (ad 3), .ref (ad 4), .ref (ad 5), .ref (ad 6), .ref (ad 7), .ref (ad 8), .int (M.1 0 12), .int (M.1 0 13), .int (M.1 0 14), .ref (ad 9), .ref (ad 10), .ref (ad 11), .ref (ad 12), .int (M.1 0 19), .ref (ad 13), .int (M.1 0 21), .int (M.1 0 22), .int (M.1 0 23), .ref (ad 14), .ref (ad 15), .ref (ad 16), .ref (ad 17), .ref (ad 18), .ref (ad 19), .ref (ad 20), .ref (ad 21), .long (M.2 0 32), .ref (ad 22), .ref (ad 23), .int (M.1 0 35), .int (M.1 0 36), .int (M.1 0 37), .int (M.1 0 38), .ref (ad 24), .ref (ad 25), .ref (ad 26), .ref (ad 27), .ref (ad 28), .ref (ad 29), .ref (ad 30), .ref (ad 31), .ref (ad 32), .long (M.2 0 48)].set 32 (.long x)) := by rw [ceM_0]; simp [wJ, va_up, vp_updL]
theorem stM0_35 {ad : Nat → Nat} {cy : Nat → ClassId} (M : Mm) (x : Int32) : ceM ad cy (wI M 0 (upd (M.1 0) 35 x)) 0 = .inr (11, [.int (M.1 0 0), .int (M.1 0 1), .int (M.1 0 2), .int (M.1 0 3), .ref (ad 1), .ref (ad 2), .ref (ad 3), .ref (ad 4), .ref (ad 5), .ref (ad 6), .ref (ad 7), .ref (ad 8), .int (M.1 0 12), .int (M.1 0 13), .int (M.1 0 14), .ref (ad 9), .ref (ad 10), .ref (ad 11), .ref (ad 12), .int (M.1 0 19), .ref (ad 13), .int (M.1 0 21), .int (M.1 0 22), .int (M.1 0 23), .ref (ad 14), .ref (ad 15), .ref (ad 16), .ref (ad 17), .ref (ad 18), .ref (ad 19), .ref (ad 20), .ref (ad 21), .long (M.2 0 32), .ref (ad 22), .ref (ad 23), .int (M.1 0 35), .int (M.1 0 36), .int (M.1 0 37), .int (M.1 0 38), .ref (ad 24), .ref (ad 25), .ref (ad 26), .ref (ad 27), .ref (ad 28), .ref (ad 29), .ref (ad 30), .ref (ad 31), .ref (ad 32), .long (M.2 0 48)].set 35 (.int x)) := by rw [ceM_0]; simp [wI, va_up, upd]
theorem stM0_36 {ad : Nat → Nat} {cy : Nat → ClassId} (M : Mm) (x : Int32) : ceM ad cy (wI M 0 (upd (M.1 0) 36 x)) 0 = .inr (11, [.int (M.1 0 0), .int (M.1 0 1), .int (M.1 0 2), .int (M.1 0 3), .ref (ad 1), .ref (ad 2), .ref (ad 3), .ref (ad 4), .ref (ad 5), .ref (ad 6), .ref (ad 7), .ref (ad 8), .int (M.1 0 12), .int (M.1 0 13), .int (M.1 0 14), .ref (ad 9), .ref (ad 10), .ref (ad 11), .ref (ad 12), .int (M.1 0 19), .ref (ad 13), .int (M.1 0 21), .int (M.1 0 22), .int (M.1 0 23), .ref (ad 14), .ref (ad 15), .ref (ad 16), .ref (ad 17), .ref (ad 18), .ref (ad 19), .ref (ad 20), .ref (ad 21), .long (M.2 0 32), .ref (ad 22), .ref (ad 23), .int (M.1 0 35), .int (M.1 0 36), .int (M.1 0 37), .int (M.1 0 38), .ref (ad 24), .ref (ad 25), .ref (ad 26), .ref (ad 27), .ref (ad 28), .ref (ad 29), .ref (ad 30), .ref (ad 31), .ref (ad 32), .long (M.2 0 48)].set 36 (.int x)) := by rw [ceM_0]; simp [wI, va_up, upd]
theorem stM0_37 {ad : Nat → Nat} {cy : Nat → ClassId} (M : Mm) (x : Int32) : ceM ad cy (wI M 0 (upd (M.1 0) 37 x)) 0 = .inr (11, [.int (M.1 0 0), .int (M.1 0 1), .int (M.1 0 2), .int (M.1 0 3), .ref (ad 1), .ref (ad 2), .ref (ad 3), .ref (ad 4), .ref (ad 5), .ref (ad 6), .ref (ad 7), .ref (ad 8), .int (M.1 0 12), .int (M.1 0 13), .int (M.1 0 14), .ref (ad 9), .ref (ad 10), .ref (ad 11), .ref (ad 12), .int (M.1 0 19), .ref (ad 13), .int (M.1 0 21), .int (M.1 0 22), .int (M.1 0 23), .ref (ad 14), .ref (ad 15), .ref (ad 16), .ref (ad 17), .ref (ad 18), .ref (ad 19), .ref (ad 20), .ref (ad 21), .long (M.2 0 32), .ref (ad 22), .ref (ad 23), .int (M.1 0 35), .int (M.1 0 36), .int (M.1 0 37), .int (M.1 0 38), .ref (ad 24), .ref (ad 25), .ref (ad 26), .ref (ad 27), .ref (ad 28), .ref (ad 29), .ref (ad 30), .ref (ad 31), .ref (ad 32), .long (M.2 0 48)].set 37 (.int x)) := by rw [ceM_0]; simp [wI, va_up, upd]
theorem stM0_38 {ad : Nat → Nat} {cy : Nat → ClassId} (M : Mm) (x : Int32) : ceM ad cy (wI M 0 (upd (M.1 0) 38 x)) 0 = .inr (11, [.int (M.1 0 0), .int (M.1 0 1), .int (M.1 0 2), .int (M.1 0 3), .ref (ad 1), .ref (ad 2), .ref (ad 3), .ref (ad 4), .ref (ad 5), .ref (ad 6), .ref (ad 7), .ref (ad 8), .int (M.1 0 12), .int (M.1 0 13), .int (M.1 0 14), .ref (ad 9), .ref (ad 10), .ref (ad 11), .ref (ad 12), .int (M.1 0 19), .ref (ad 13), .int (M.1 0 21), .int (M.1 0 22), .int (M.1 0 23), .ref (ad 14), .ref (ad 15), .ref (ad 16), .ref (ad 17), .ref (ad 18), .ref (ad 19), .ref (ad 20), .ref (ad 21), .long (M.2 0 32), .ref (ad 22), .ref (ad 23), .int (M.1 0 35), .int (M.1 0 36), .int (M.1 0 37), .int (M.1 0 38), .ref (ad 24), .ref (ad 25), .ref (ad 26), .ref (ad 27), .ref (ad 28), .ref (ad 29), .ref (ad 30), .ref (ad 31), .ref (ad 32), .long (M.2 0 48)].set 38 (.int x)) := by rw [ceM_0]; simp [wI, va_up, upd]
theorem stM0_48 {ad : Nat → Nat} {cy : Nat → ClassId} (M : Mm) (x : Int64) : ceM ad cy (wJ M 0 (vp_updL (M.2 0) 48 x)) 0 = .inr (11, [.int (M.1 0 0), .int (M.1 0 1), .int (M.1 0 2), .int (M.1 0 3), .ref (ad 1), .ref (ad 2), .ref (ad 3), .ref (ad 4), .ref (ad 5), .ref (ad 6), .ref (ad 7), .ref (ad 8), .int (M.1 0 12), .int (M.1 0 13), .int (M.1 0 14), .ref (ad 9), .ref (ad 10), .ref (ad 11), .ref (ad 12), .int (M.1 0 19), .ref (ad 13), .int (M.1 0 21), .int (M.1 0 22), .int (M.1 0 23), .ref (ad 14), .ref (ad 15), .ref (ad 16), .ref (ad 17), .ref (ad 18), .ref (ad 19), .ref (ad 20), .ref (ad 21), .long (M.2 0 32), .ref (ad 22), .ref (ad 23), .int (M.1 0 35), .int (M.1 0 36), .int (M.1 0 37), .int (M.1 0 38), .ref (ad 24), .ref (ad 25), .ref (ad 26), .ref (ad 27), .ref (ad 28), .ref (ad 29), .ref (ad 30), .ref (ad 31), .ref (ad 32), .long (M.2 0 48)].set 48 (.long x)) := by rw [ceM_0]; simp [wJ, va_up, vp_updL]
theorem row_at {ad : Nat → Nat} {n : Nat} {i : Int32} (h : vp_in i 5) : (fun i => if i < 5 then some (ad (n + 1 + i)) else none) i.toNatClampNeg = some (ad (n + 1 + i.toNatClampNeg)) := by
  have hlt : i.toNatClampNeg < 5 := Nat.not_le.mp fun q => h (Or.inr q)
  simp [hlt]
theorem row_mem (b : Nat) {i : Int32} (h : vp_in i 5) (hb : b < 79) : b + i.toNatClampNeg ∈ nsX := by
  have hlt : i.toNatClampNeg < 5 := Nat.not_le.mp fun q => h (Or.inr q)
  exact List.mem_range.mpr (by omega)
theorem row_64 {ad : Nat → Nat} {cy : Nat → ClassId} {i : Int32} (h : vp_in i 5) (M : Mm) : ceX ad cy M (64 + i.toNatClampNeg) = .inl (cy 1, 5, .inl (M.1 (64 + i.toNatClampNeg))) := by
  have hlt : i.toNatClampNeg < 5 := Nat.not_le.mp fun q => h (Or.inr q)
  generalize i.toNatClampNeg = j at hlt ⊢
  rcases (show j = 0 ∨ j = 1 ∨ j = 2 ∨ j = 3 ∨ j = 4 by omega) with rfl | rfl | rfl | rfl | rfl <;> rfl
theorem row_73 {ad : Nat → Nat} {cy : Nat → ClassId} {i : Int32} (h : vp_in i 5) (M : Mm) : ceX ad cy M (73 + i.toNatClampNeg) = .inl (cy 1, 5, .inl (M.1 (73 + i.toNatClampNeg))) := by
  have hlt : i.toNatClampNeg < 5 := Nat.not_le.mp fun q => h (Or.inr q)
  generalize i.toNatClampNeg = j at hlt ⊢
  rcases (show j = 0 ∨ j = 1 ∨ j = 2 ∨ j = 3 ∨ j = 4 by omega) with rfl | rfl | rfl | rfl | rfl <;> rfl
end
section
def w_X1_yards (r : Nat) (x1 : Int32) (x2 : Int32) (x3 : Int32) (M : Mm) (post : Int32 → Mm → Prop) : Prop :=
  post ((x1 + x2) + ((2 : Int32) * x3)) M
set_option maxHeartbeats 4000000 in
set_option maxRecDepth 100000 in
theorem c_X1_yards (l : Launch) (D : va_G) (cy : Nat → ClassId) (ad : Nat → Nat) (A : Nat → Prop) (G : Gd A ad nsX) (r : Nat)  (x1 : Int32) (x2 : Int32) (x3 : Int32) (M : Mm) (post : Int32 → Mm → Prop) (h : w_X1_yards r x1 x2 x3 M post) : CI l yX1_yards wsX1_yards (rmL 2) D (tysC cy) A ad nsX (ceX ad cy) [.ref (ad r), .int x1, .int x2, .int x3] M post := by
  refine Met_V (cc := cX1_yards) (maxL := 4) (ret := (some .int)) (by decide) rfl G Lo_X (Nat.le_of_ble_eq_true rfl) rfl ?_
  intro p e s m args below meth c C hr hlk
  have C : Cx p s m args c cX1_yards 4 RX1 wsX1_yards D (tysC cy) A ad nsX (ceX ad cy) := C
  unfold w_X1_yards at h
  refine V_iload_n C 1 dX1_yards_0 rfl ?_
  refine V_iload_n C 2 dX1_yards_1 rfl ?_
  refine V_iadd C dX1_yards_2 ?_
  refine V_iconst (v := (2 : Int32)) C dX1_yards_3 (by decide) ?_
  refine V_iload_n C 3 dX1_yards_4 rfl ?_
  refine V_imul C dX1_yards_5 ?_
  refine V_iadd C dX1_yards_6 ?_
  exact V_iret C hr hlk dX1_yards_7 h
def w_X4_yards (r : Nat) (x1 : Int32) (x2 : Int32) (x3 : Int32) (M : Mm) (post : Int32 → Mm → Prop) : Prop :=
  post ((x1 + ((3 : Int32) * x2)) + ((2 : Int32) * x3)) M
set_option maxHeartbeats 4000000 in
set_option maxRecDepth 100000 in
theorem c_X4_yards (l : Launch) (D : va_G) (cy : Nat → ClassId) (ad : Nat → Nat) (A : Nat → Prop) (G : Gd A ad nsX) (r : Nat)  (x1 : Int32) (x2 : Int32) (x3 : Int32) (M : Mm) (post : Int32 → Mm → Prop) (h : w_X4_yards r x1 x2 x3 M post) : CI l yX4_yards wsX4_yards (rmL 2) D (tysC cy) A ad nsX (ceX ad cy) [.ref (ad r), .int x1, .int x2, .int x3] M post := by
  refine Met_V (cc := cX4_yards) (maxL := 4) (ret := (some .int)) (by decide) rfl G Lo_X (Nat.le_of_ble_eq_true rfl) rfl ?_
  intro p e s m args below meth c C hr hlk
  have C : Cx p s m args c cX4_yards 4 RX4 wsX4_yards D (tysC cy) A ad nsX (ceX ad cy) := C
  unfold w_X4_yards at h
  refine V_iload_n C 1 dX4_yards_0 rfl ?_
  refine V_iconst (v := (3 : Int32)) C dX4_yards_1 (by decide) ?_
  refine V_iload_n C 2 dX4_yards_2 rfl ?_
  refine V_imul C dX4_yards_3 ?_
  refine V_iadd C dX4_yards_4 ?_
  refine V_iconst (v := (2 : Int32)) C dX4_yards_5 (by decide) ?_
  refine V_iload_n C 3 dX4_yards_6 rfl ?_
  refine V_imul C dX4_yards_7 ?_
  refine V_iadd C dX4_yards_8 ?_
  exact V_iret C hr hlk dX4_yards_9 h
def w_X0_yards (r : Nat) (x1 : Int32) (x2 : Int32) (x3 : Int32) (M : Mm) (post : Int32 → Mm → Prop) : Prop :=
  w_X1_yards r x1 x2 x3 M (fun r1 M2 => post ((r1 + (1 : Int32)) / (2 : Int32)) M2)
set_option maxHeartbeats 4000000 in
set_option maxRecDepth 100000 in
theorem c_X0_yards (l : Launch) (D : va_G) (cy : Nat → ClassId) (ad : Nat → Nat) (A : Nat → Prop) (G : Gd A ad nsX) (r : Nat) (m_r : r < 84) (k_r : kdX r = 0) (x1 : Int32) (x2 : Int32) (x3 : Int32) (M : Mm) (post : Int32 → Mm → Prop) (h : w_X0_yards r x1 x2 x3 M post) : CI l yX0_yards wsX0_yards (rmL 3) D (tysC cy) A ad nsX (ceX ad cy) [.ref (ad r), .int x1, .int x2, .int x3] M post := by
  refine Met_V (cc := cX0_yards) (maxL := 4) (ret := (some .int)) (by decide) rfl G Lo_X (Nat.le_of_ble_eq_true rfl) rfl ?_
  intro p e s m args below meth c C hr hlk
  have C : Cx p s m args c cX0_yards 4 RX0 wsX0_yards D (tysC cy) A ad nsX (ceX ad cy) := C
  unfold w_X0_yards at h
  refine V_aload_n C 0 dX0_yards_0 rfl ?_
  refine V_iload_n C 1 dX0_yards_1 rfl ?_
  refine V_iload_n C 2 dX0_yards_2 rfl ?_
  refine V_iload_n C 3 dX0_yards_3 rfl ?_
  refine V_callU (q := (RX0, TX0, 0)) (rest := []) C (nsX_mem m_r) ((ceX_k0 k_r) _) rfl (c_X1_yards l D cy ad A G r x1 x2 x3 M _ h) (va_cwSU 3 C.1.2.2.2.2 gX0_yards_X1_yards_s7 rfl rfl rfl (by decide +kernel) ⟨by decide, by decide⟩) rfl rfl (Nat.le_of_ble_eq_true rfl) dX0_yards_4 (fun r1 M2 h => ?_)
  refine V_iconst (v := (1 : Int32)) C dX0_yards_7 (by decide) ?_
  refine V_iadd C dX0_yards_8 ?_
  refine V_iconst (v := (2 : Int32)) C dX0_yards_9 (by decide) ?_
  refine V_idiv C dX0_yards_10 (by decide) ?_
  exact V_iret C hr hlk dX0_yards_11 h
def w_X10_yards (r : Nat) (x1 : Int32) (x2 : Int32) (x3 : Int32) (M : Mm) (post : Int32 → Mm → Prop) : Prop :=
  w_X1_yards r x1 x2 x3 M (fun r1 M2 => post ((r1 + (4 : Int32)) / (5 : Int32)) M2)
set_option maxHeartbeats 4000000 in
set_option maxRecDepth 100000 in
theorem c_X10_yards (l : Launch) (D : va_G) (cy : Nat → ClassId) (ad : Nat → Nat) (A : Nat → Prop) (G : Gd A ad nsX) (r : Nat) (m_r : r < 84) (k_r : kdX r = 9) (x1 : Int32) (x2 : Int32) (x3 : Int32) (M : Mm) (post : Int32 → Mm → Prop) (h : w_X10_yards r x1 x2 x3 M post) : CI l yX10_yards wsX10_yards (rmL 3) D (tysC cy) A ad nsX (ceX ad cy) [.ref (ad r), .int x1, .int x2, .int x3] M post := by
  refine Met_V (cc := cX10_yards) (maxL := 4) (ret := (some .int)) (by decide) rfl G Lo_X (Nat.le_of_ble_eq_true rfl) rfl ?_
  intro p e s m args below meth c C hr hlk
  have C : Cx p s m args c cX10_yards 4 RX10 wsX10_yards D (tysC cy) A ad nsX (ceX ad cy) := C
  unfold w_X10_yards at h
  refine V_aload_n C 0 dX10_yards_0 rfl ?_
  refine V_iload_n C 1 dX10_yards_1 rfl ?_
  refine V_iload_n C 2 dX10_yards_2 rfl ?_
  refine V_iload_n C 3 dX10_yards_3 rfl ?_
  refine V_callU (q := (RX10, TX10, 0)) (rest := []) C (nsX_mem m_r) ((ceX_k9 k_r) _) rfl (c_X1_yards l D cy ad A G r x1 x2 x3 M _ h) (va_cwSU 3 C.1.2.2.2.2 gX10_yards_X1_yards_s7 rfl rfl rfl (by decide +kernel) ⟨by decide, by decide⟩) rfl rfl (Nat.le_of_ble_eq_true rfl) dX10_yards_4 (fun r1 M2 h => ?_)
  refine V_iconst (v := (4 : Int32)) C dX10_yards_7 (by decide) ?_
  refine V_iadd C dX10_yards_8 ?_
  refine V_iconst (v := (5 : Int32)) C dX10_yards_9 (by decide) ?_
  refine V_idiv C dX10_yards_10 (by decide) ?_
  exact V_iret C hr hlk dX10_yards_11 h
def w_X3_yards (r : Nat) (x1 : Int32) (x2 : Int32) (x3 : Int32) (M : Mm) (post : Int32 → Mm → Prop) : Prop :=
  w_X4_yards r x1 x2 x3 M (fun r1 M2 => post ((2 : Int32) * r1) M2)
set_option maxHeartbeats 4000000 in
set_option maxRecDepth 100000 in
theorem c_X3_yards (l : Launch) (D : va_G) (cy : Nat → ClassId) (ad : Nat → Nat) (A : Nat → Prop) (G : Gd A ad nsX) (r : Nat) (m_r : r < 84) (k_r : kdX r = 3) (x1 : Int32) (x2 : Int32) (x3 : Int32) (M : Mm) (post : Int32 → Mm → Prop) (h : w_X3_yards r x1 x2 x3 M post) : CI l yX3_yards wsX3_yards (rmL 3) D (tysC cy) A ad nsX (ceX ad cy) [.ref (ad r), .int x1, .int x2, .int x3] M post := by
  refine Met_V (cc := cX3_yards) (maxL := 4) (ret := (some .int)) (by decide) rfl G Lo_X (Nat.le_of_ble_eq_true rfl) rfl ?_
  intro p e s m args below meth c C hr hlk
  have C : Cx p s m args c cX3_yards 4 RX3 wsX3_yards D (tysC cy) A ad nsX (ceX ad cy) := C
  unfold w_X3_yards at h
  refine V_iconst (v := (2 : Int32)) C dX3_yards_0 (by decide) ?_
  refine V_aload_n C 0 dX3_yards_1 rfl ?_
  refine V_iload_n C 1 dX3_yards_2 rfl ?_
  refine V_iload_n C 2 dX3_yards_3 rfl ?_
  refine V_iload_n C 3 dX3_yards_4 rfl ?_
  refine V_callU (q := (RX3, TX3, 0)) (rest := [.int (2 : Int32)]) C (nsX_mem m_r) ((ceX_k3 k_r) _) rfl (c_X4_yards l D cy ad A G r x1 x2 x3 M _ h) (va_cwSU 3 C.1.2.2.2.2 gX3_yards_X4_yards_s7 rfl rfl rfl (by decide +kernel) ⟨by decide, by decide⟩) rfl rfl (Nat.le_of_ble_eq_true rfl) dX3_yards_5 (fun r1 M2 h => ?_)
  refine V_imul C dX3_yards_8 ?_
  exact V_iret C hr hlk dX3_yards_9 h
/-- a call of yards on a clerk of any kind -/
def w_yards (r : Nat) (x1 x2 x3 : Int32) (M : Mm) (post : Int32 → Mm → Prop) : Prop := r < 84 ∧ ((kdX r = 1 ∧ w_X1_yards r x1 x2 x3 M post) ∨ (kdX r = 0 ∧ w_X0_yards r x1 x2 x3 M post) ∨ (kdX r = 4 ∧ w_X4_yards r x1 x2 x3 M post) ∨ (kdX r = 9 ∧ w_X10_yards r x1 x2 x3 M post) ∨ (kdX r = 3 ∧ w_X3_yards r x1 x2 x3 M post))
def w_X2_isThere (b : Nat)  (M : Mm) (post : Int32 → Mm → Prop) : Prop :=
  (((M.1 b 1) ≤ 0) → (post (0 : Int32) M)) ∧ ((¬ (M.1 b 1) ≤ 0) → (post (1 : Int32) M))
theorem iw_X2_isThere_X2 : ∀ w ∈ u_ws RX2 TX2 18, w ∈ wsX2_isThere := by decide +kernel
theorem m_X2_isThere_f77 : Cond.fieldLink RX2 77 "ShameYards$House" "roomCount" "I" ∈ wsX2_isThere := by decide +kernel
set_option maxHeartbeats 4000000 in
set_option maxRecDepth 100000 in
theorem c_X2_isThere (l : Launch) (D : va_G) (cy : Nat → ClassId) (ad : Nat → Nat) (A : Nat → Prop) (G : Gd A ad nsX) (b : Nat) (h_b : isH b)  (M : Mm) (post : Int32 → Mm → Prop) (h : w_X2_isThere b M post) : CI l yX2_isThere wsX2_isThere (rmL 2) D (tysC cy) A ad nsX (ceX ad cy) [.ref (ad b)] M (fun r M' => (r = 0 ∨ r = 1) ∧ post r M') := by
  refine Met_V (cc := cX2_isThere) (maxL := 1) (ret := (some .boolean)) (by decide) rfl G Lo_X (Nat.le_of_ble_eq_true rfl) rfl ?_
  intro p e s m args below meth c C hr hlk
  have C : Cx p s m args c cX2_isThere 1 RX2 wsX2_isThere D (tysC cy) A ad nsX (ceX ad cy) := C
  unfold w_X2_isThere at h
  refine V_aload_n C 0 dX2_isThere_0 rfl ?_
  refine V_get (k0 := 1) (Cn := RX2) (T := TX2) (N := 18) C (hs_mem0 h_b) rfl iw_X2_isThere_X2 (by decide) rfl m_X2_isThere_f77 ((ceX_H h_b) _) rfl dX2_isThere_1 ?_
  refine V_if_le C 11 dX2_isThere_4 (by decide) (fun q1 => ?_) (fun q1 => ?_)
  · have h := h.1 q1
    refine V_iconst (v := (0 : Int32)) C dX2_isThere_11 (by decide) ?_
    exact V_zret C hr hlk (Or.inl rfl) dX2_isThere_12 h
  · have h := h.2 q1
    refine V_iconst (v := (1 : Int32)) C dX2_isThere_7 (by decide) ?_
    refine V_goto C 12 dX2_isThere_8 (by decide) ?_
    exact V_zret C hr hlk (Or.inr rfl) dX2_isThere_12 h
def w_X2_hasPerson (b : Nat) (x1 : Int32) (M : Mm) (post : Int32 → Mm → Prop) : Prop :=
  ((x1 < 0) → (post (0 : Int32) M)) ∧ ((¬ x1 < 0) → ((((M.1 b 3) ≤ x1) → (post (0 : Int32) M)) ∧ ((¬ (M.1 b 3) ≤ x1) → (post (1 : Int32) M))))
theorem iw_X2_hasPerson_X2 : ∀ w ∈ u_ws RX2 TX2 18, w ∈ wsX2_hasPerson := by decide +kernel
theorem m_X2_hasPerson_f93 : Cond.fieldLink RX2 93 "ShameYards$House" "peopleCount" "I" ∈ wsX2_hasPerson := by decide +kernel
set_option maxHeartbeats 4000000 in
set_option maxRecDepth 100000 in
theorem c_X2_hasPerson (l : Launch) (D : va_G) (cy : Nat → ClassId) (ad : Nat → Nat) (A : Nat → Prop) (G : Gd A ad nsX) (b : Nat) (h_b : isH b) (x1 : Int32) (M : Mm) (post : Int32 → Mm → Prop) (h : w_X2_hasPerson b x1 M post) : CI l yX2_hasPerson wsX2_hasPerson (rmL 2) D (tysC cy) A ad nsX (ceX ad cy) [.ref (ad b), .int x1] M (fun r M' => (r = 0 ∨ r = 1) ∧ post r M') := by
  refine Met_V (cc := cX2_hasPerson) (maxL := 2) (ret := (some .boolean)) (by decide) rfl G Lo_X (Nat.le_of_ble_eq_true rfl) rfl ?_
  intro p e s m args below meth c C hr hlk
  have C : Cx p s m args c cX2_hasPerson 2 RX2 wsX2_hasPerson D (tysC cy) A ad nsX (ceX ad cy) := C
  unfold w_X2_hasPerson at h
  refine V_iload_n C 1 dX2_hasPerson_0 rfl ?_
  refine V_if_lt C 16 dX2_hasPerson_1 (by decide) (fun q1 => ?_) (fun q1 => ?_)
  · have h := h.1 q1
    refine V_iconst (v := (0 : Int32)) C dX2_hasPerson_16 (by decide) ?_
    exact V_zret C hr hlk (Or.inl rfl) dX2_hasPerson_17 h
  · have h := h.2 q1
    refine V_iload_n C 1 dX2_hasPerson_4 rfl ?_
    refine V_aload_n C 0 dX2_hasPerson_5 rfl ?_
    refine V_get (k0 := 3) (Cn := RX2) (T := TX2) (N := 18) C (hs_mem0 h_b) rfl iw_X2_hasPerson_X2 (by decide) rfl m_X2_hasPerson_f93 ((ceX_H h_b) _) rfl dX2_hasPerson_6 ?_
    refine V_icmp_ge C 16 dX2_hasPerson_9 (by decide) (fun q2 => ?_) (fun q2 => ?_)
    · have h := h.1 q2
      refine V_iconst (v := (0 : Int32)) C dX2_hasPerson_16 (by decide) ?_
      exact V_zret C hr hlk (Or.inl rfl) dX2_hasPerson_17 h
    · have h := h.2 q2
      refine V_iconst (v := (1 : Int32)) C dX2_hasPerson_12 (by decide) ?_
      refine V_goto C 17 dX2_hasPerson_13 (by decide) ?_
      exact V_zret C hr hlk (Or.inr rfl) dX2_hasPerson_17 h
def w_X2_hasPassage (b : Nat) (x1 : Int32) (M : Mm) (post : Int32 → Mm → Prop) : Prop :=
  ((x1 < 0) → (post (0 : Int32) M)) ∧ ((¬ x1 < 0) → ((((M.1 b 2) ≤ x1) → (post (0 : Int32) M)) ∧ ((¬ (M.1 b 2) ≤ x1) → (post (1 : Int32) M))))
theorem iw_X2_hasPassage_X2 : ∀ w ∈ u_ws RX2 TX2 18, w ∈ wsX2_hasPassage := by decide +kernel
theorem m_X2_hasPassage_f87 : Cond.fieldLink RX2 87 "ShameYards$House" "passageCount" "I" ∈ wsX2_hasPassage := by decide +kernel
set_option maxHeartbeats 4000000 in
set_option maxRecDepth 100000 in
theorem c_X2_hasPassage (l : Launch) (D : va_G) (cy : Nat → ClassId) (ad : Nat → Nat) (A : Nat → Prop) (G : Gd A ad nsX) (b : Nat) (h_b : isH b) (x1 : Int32) (M : Mm) (post : Int32 → Mm → Prop) (h : w_X2_hasPassage b x1 M post) : CI l yX2_hasPassage wsX2_hasPassage (rmL 2) D (tysC cy) A ad nsX (ceX ad cy) [.ref (ad b), .int x1] M (fun r M' => (r = 0 ∨ r = 1) ∧ post r M') := by
  refine Met_V (cc := cX2_hasPassage) (maxL := 2) (ret := (some .boolean)) (by decide) rfl G Lo_X (Nat.le_of_ble_eq_true rfl) rfl ?_
  intro p e s m args below meth c C hr hlk
  have C : Cx p s m args c cX2_hasPassage 2 RX2 wsX2_hasPassage D (tysC cy) A ad nsX (ceX ad cy) := C
  unfold w_X2_hasPassage at h
  refine V_iload_n C 1 dX2_hasPassage_0 rfl ?_
  refine V_if_lt C 16 dX2_hasPassage_1 (by decide) (fun q1 => ?_) (fun q1 => ?_)
  · have h := h.1 q1
    refine V_iconst (v := (0 : Int32)) C dX2_hasPassage_16 (by decide) ?_
    exact V_zret C hr hlk (Or.inl rfl) dX2_hasPassage_17 h
  · have h := h.2 q1
    refine V_iload_n C 1 dX2_hasPassage_4 rfl ?_
    refine V_aload_n C 0 dX2_hasPassage_5 rfl ?_
    refine V_get (k0 := 2) (Cn := RX2) (T := TX2) (N := 18) C (hs_mem0 h_b) rfl iw_X2_hasPassage_X2 (by decide) rfl m_X2_hasPassage_f87 ((ceX_H h_b) _) rfl dX2_hasPassage_6 ?_
    refine V_icmp_ge C 16 dX2_hasPassage_9 (by decide) (fun q2 => ?_) (fun q2 => ?_)
    · have h := h.1 q2
      refine V_iconst (v := (0 : Int32)) C dX2_hasPassage_16 (by decide) ?_
      exact V_zret C hr hlk (Or.inl rfl) dX2_hasPassage_17 h
    · have h := h.2 q2
      refine V_iconst (v := (1 : Int32)) C dX2_hasPassage_12 (by decide) ?_
      refine V_goto C 17 dX2_hasPassage_13 (by decide) ?_
      exact V_zret C hr hlk (Or.inr rfl) dX2_hasPassage_17 h
def w_X2_hasRoom (b : Nat) (x1 : Int32) (M : Mm) (post : Int32 → Mm → Prop) : Prop :=
  ((x1 < 0) → (post (0 : Int32) M)) ∧ ((¬ x1 < 0) → ((((M.1 b 1) ≤ x1) → (post (0 : Int32) M)) ∧ ((¬ (M.1 b 1) ≤ x1) → (post (1 : Int32) M))))
theorem iw_X2_hasRoom_X2 : ∀ w ∈ u_ws RX2 TX2 18, w ∈ wsX2_hasRoom := by decide +kernel
theorem m_X2_hasRoom_f77 : Cond.fieldLink RX2 77 "ShameYards$House" "roomCount" "I" ∈ wsX2_hasRoom := by decide +kernel
set_option maxHeartbeats 4000000 in
set_option maxRecDepth 100000 in
theorem c_X2_hasRoom (l : Launch) (D : va_G) (cy : Nat → ClassId) (ad : Nat → Nat) (A : Nat → Prop) (G : Gd A ad nsX) (b : Nat) (h_b : isH b) (x1 : Int32) (M : Mm) (post : Int32 → Mm → Prop) (h : w_X2_hasRoom b x1 M post) : CI l yX2_hasRoom wsX2_hasRoom (rmL 2) D (tysC cy) A ad nsX (ceX ad cy) [.ref (ad b), .int x1] M (fun r M' => (r = 0 ∨ r = 1) ∧ post r M') := by
  refine Met_V (cc := cX2_hasRoom) (maxL := 2) (ret := (some .boolean)) (by decide) rfl G Lo_X (Nat.le_of_ble_eq_true rfl) rfl ?_
  intro p e s m args below meth c C hr hlk
  have C : Cx p s m args c cX2_hasRoom 2 RX2 wsX2_hasRoom D (tysC cy) A ad nsX (ceX ad cy) := C
  unfold w_X2_hasRoom at h
  refine V_iload_n C 1 dX2_hasRoom_0 rfl ?_
  refine V_if_lt C 16 dX2_hasRoom_1 (by decide) (fun q1 => ?_) (fun q1 => ?_)
  · have h := h.1 q1
    refine V_iconst (v := (0 : Int32)) C dX2_hasRoom_16 (by decide) ?_
    exact V_zret C hr hlk (Or.inl rfl) dX2_hasRoom_17 h
  · have h := h.2 q1
    refine V_iload_n C 1 dX2_hasRoom_4 rfl ?_
    refine V_aload_n C 0 dX2_hasRoom_5 rfl ?_
    refine V_get (k0 := 1) (Cn := RX2) (T := TX2) (N := 18) C (hs_mem0 h_b) rfl iw_X2_hasRoom_X2 (by decide) rfl m_X2_hasRoom_f77 ((ceX_H h_b) _) rfl dX2_hasRoom_6 ?_
    refine V_icmp_ge C 16 dX2_hasRoom_9 (by decide) (fun q2 => ?_) (fun q2 => ?_)
    · have h := h.1 q2
      refine V_iconst (v := (0 : Int32)) C dX2_hasRoom_16 (by decide) ?_
      exact V_zret C hr hlk (Or.inl rfl) dX2_hasRoom_17 h
    · have h := h.2 q2
      refine V_iconst (v := (1 : Int32)) C dX2_hasRoom_12 (by decide) ?_
      refine V_goto C 17 dX2_hasRoom_13 (by decide) ?_
      exact V_zret C hr hlk (Or.inr rfl) dX2_hasRoom_17 h
def w_X2_knows (b : Nat) (x1 : Int32) (x2 : Int32) (x3 : Int32) (M : Mm) (post : Int32 → Mm → Prop) : Prop :=
  w_X2_hasPerson b x1 M (fun r1 M2 => ((r1 = 0) → (post (0 : Int32) M2)) ∧ ((¬ r1 = 0) → (w_X2_hasPassage b x2 M2 (fun r5 M6 => ((r5 = 0) → (post (0 : Int32) M6)) ∧ ((¬ r5 = 0) → (((x3 = (-1 : Int32)) → (post (1 : Int32) M6)) ∧ ((¬ x3 = (-1 : Int32)) → (w_X2_hasPerson b x3 M6 (fun r10 M11 => ((r10 = 0) → (post (0 : Int32) M11)) ∧ ((¬ r10 = 0) → (((x3 = x1) → (post (0 : Int32) M11)) ∧ ((¬ x3 = x1) → (post (1 : Int32) M11)))))))))))))
set_option maxHeartbeats 4000000 in
set_option maxRecDepth 100000 in
theorem c_X2_knows (l : Launch) (D : va_G) (cy : Nat → ClassId) (ad : Nat → Nat) (A : Nat → Prop) (G : Gd A ad nsX) (b : Nat) (h_b : isH b) (x1 : Int32) (x2 : Int32) (x3 : Int32) (M : Mm) (post : Int32 → Mm → Prop) (h : w_X2_knows b x1 x2 x3 M post) : CI l yX2_knows wsX2_knows (rmL 3) D (tysC cy) A ad nsX (ceX ad cy) [.ref (ad b), .int x1, .int x2, .int x3] M (fun r M' => (r = 0 ∨ r = 1) ∧ post r M') := by
  refine Met_V (cc := cX2_knows) (maxL := 4) (ret := (some .boolean)) (by decide) rfl G Lo_X (Nat.le_of_ble_eq_true rfl) rfl ?_
  intro p e s m args below meth c C hr hlk
  have C : Cx p s m args c cX2_knows 4 RX2 wsX2_knows D (tysC cy) A ad nsX (ceX ad cy) := C
  unfold w_X2_knows at h
  refine V_aload_n C 0 dX2_knows_0 rfl ?_
  refine V_iload_n C 1 dX2_knows_1 rfl ?_
  refine V_callVi (q := (RX2, TX2, 18)) (rest := []) C (hs_mem0 h_b) ((ceX_H h_b) _) rfl (c_X2_hasPerson l D cy ad A G b h_b x1 M _ h) (cwV 1 C.1.2.2.2.2 gX2_knows_X2_hasPerson rfl rfl rfl (by decide +kernel) ⟨by decide, by decide⟩) rfl rfl (Nat.le_of_ble_eq_true rfl) dX2_knows_2 (fun r1 M2 h => ?_)
  obtain ⟨z3, h⟩ := h
  refine V_if_eq C 38 dX2_knows_5 (by decide) (fun q4 => ?_) (fun q4 => ?_)
  · have h := h.1 q4
    refine V_iconst (v := (0 : Int32)) C dX2_knows_38 (by decide) ?_
    exact V_zret C hr hlk (Or.inl rfl) dX2_knows_39 h
  · have h := h.2 q4
    refine V_aload_n C 0 dX2_knows_8 rfl ?_
    refine V_iload_n C 2 dX2_knows_9 rfl ?_
    refine V_callVi (q := (RX2, TX2, 18)) (rest := []) C (hs_mem0 h_b) ((ceX_H h_b) _) rfl (c_X2_hasPassage l D cy ad A G b h_b x2 M2 _ h) (cwV 1 C.1.2.2.2.2 gX2_knows_X2_hasPassage rfl rfl rfl (by decide +kernel) ⟨by decide, by decide⟩) rfl rfl (Nat.le_of_ble_eq_true rfl) dX2_knows_10 (fun r5 M6 h => ?_)
    obtain ⟨z7, h⟩ := h
    refine V_if_eq C 38 dX2_knows_13 (by decide) (fun q8 => ?_) (fun q8 => ?_)
    · have h := h.1 q8
      refine V_iconst (v := (0 : Int32)) C dX2_knows_38 (by decide) ?_
      exact V_zret C hr hlk (Or.inl rfl) dX2_knows_39 h
    · have h := h.2 q8
      refine V_iload_n C 3 dX2_knows_16 rfl ?_
      refine V_iconst (v := (-1 : Int32)) C dX2_knows_17 (by decide) ?_
      refine V_icmp_eq C 34 dX2_knows_18 (by decide) (fun q9 => ?_) (fun q9 => ?_)
      · have h := h.1 q9
        refine V_iconst (v := (1 : Int32)) C dX2_knows_34 (by decide) ?_
        refine V_goto C 39 dX2_knows_35 (by decide) ?_
        exact V_zret C hr hlk (Or.inr rfl) dX2_knows_39 h
      · have h := h.2 q9
        refine V_aload_n C 0 dX2_knows_21 rfl ?_
        refine V_iload_n C 3 dX2_knows_22 rfl ?_
        refine V_callVi (q := (RX2, TX2, 18)) (rest := []) C (hs_mem0 h_b) ((ceX_H h_b) _) rfl (c_X2_hasPerson l D cy ad A G b h_b x3 M6 _ h) (cwV 1 C.1.2.2.2.2 gX2_knows_X2_hasPerson rfl rfl rfl (by decide +kernel) ⟨by decide, by decide⟩) rfl rfl (Nat.le_of_ble_eq_true rfl) dX2_knows_23 (fun r10 M11 h => ?_)
        obtain ⟨z12, h⟩ := h
        refine V_if_eq C 38 dX2_knows_26 (by decide) (fun q13 => ?_) (fun q13 => ?_)
        · have h := h.1 q13
          refine V_iconst (v := (0 : Int32)) C dX2_knows_38 (by decide) ?_
          exact V_zret C hr hlk (Or.inl rfl) dX2_knows_39 h
        · have h := h.2 q13
          refine V_iload_n C 3 dX2_knows_29 rfl ?_
          refine V_iload_n C 1 dX2_knows_30 rfl ?_
          refine V_icmp_eq C 38 dX2_knows_31 (by decide) (fun q14 => ?_) (fun q14 => ?_)
          · have h := h.1 q14
            refine V_iconst (v := (0 : Int32)) C dX2_knows_38 (by decide) ?_
            exact V_zret C hr hlk (Or.inl rfl) dX2_knows_39 h
          · have h := h.2 q14
            refine V_iconst (v := (1 : Int32)) C dX2_knows_34 (by decide) ?_
            refine V_goto C 39 dX2_knows_35 (by decide) ?_
            exact V_zret C hr hlk (Or.inr rfl) dX2_knows_39 h
def w_X2_endsAt (b : Nat) (x1 : Int32) (x2 : Int32) (M : Mm) (post : Int32 → Mm → Prop) : Prop :=
  (vp_in x1 7) ∧ ((((M.1 (b + 7) x1.toNatClampNeg) = x2) → (post (1 : Int32) M)) ∧ ((¬ (M.1 (b + 7) x1.toNatClampNeg) = x2) → (((¬ (M.1 (b + 8) x1.toNatClampNeg) = x2) → (post (0 : Int32) M)) ∧ (((M.1 (b + 8) x1.toNatClampNeg) = x2) → (post (1 : Int32) M)))))
theorem iw_X2_endsAt_X2 : ∀ w ∈ u_ws RX2 TX2 18, w ∈ wsX2_endsAt := by decide +kernel
theorem m_X2_endsAt_f30 : Cond.fieldLink RX2 30 "ShameYards$House" "oneEnd" "[I" ∈ wsX2_endsAt := by decide +kernel
theorem m_X2_endsAt_f34 : Cond.fieldLink RX2 34 "ShameYards$House" "otherEnd" "[I" ∈ wsX2_endsAt := by decide +kernel
set_option maxHeartbeats 4000000 in
set_option maxRecDepth 100000 in
theorem c_X2_endsAt (l : Launch) (D : va_G) (cy : Nat → ClassId) (ad : Nat → Nat) (A : Nat → Prop) (G : Gd A ad nsX) (b : Nat) (h_b : isH b) (x1 : Int32) (x2 : Int32) (M : Mm) (post : Int32 → Mm → Prop) (h : w_X2_endsAt b x1 x2 M post) : CI l yX2_endsAt wsX2_endsAt (rmL 2) D (tysC cy) A ad nsX (ceX ad cy) [.ref (ad b), .int x1, .int x2] M (fun r M' => (r = 0 ∨ r = 1) ∧ post r M') := by
  refine Met_V (cc := cX2_endsAt) (maxL := 3) (ret := (some .boolean)) (by decide) rfl G Lo_X (Nat.le_of_ble_eq_true rfl) rfl ?_
  intro p e s m args below meth c C hr hlk
  have C : Cx p s m args c cX2_endsAt 3 RX2 wsX2_endsAt D (tysC cy) A ad nsX (ceX ad cy) := C
  unfold w_X2_endsAt at h
  refine V_aload_n C 0 dX2_endsAt_0 rfl ?_
  refine V_get (k0 := 4) (Cn := RX2) (T := TX2) (N := 18) C (hs_mem0 h_b) rfl iw_X2_endsAt_X2 (by decide) rfl m_X2_endsAt_f30 ((ceX_H h_b) _) rfl dX2_endsAt_1 ?_
  refine V_iload_n C 1 dX2_endsAt_4 rfl ?_
  have g1 := h.1
  have h := h.2
  refine V_iald (t0 := 1) (L := 7) C (hs_mem h_b (by decide)) (hs_7 h_b) rfl g1 dX2_endsAt_5 ?_
  refine V_iload_n C 2 dX2_endsAt_6 rfl ?_
  refine V_icmp_eq C 20 dX2_endsAt_7 (by decide) (fun q2 => ?_) (fun q2 => ?_)
  · have h := h.1 q2
    refine V_iconst (v := (1 : Int32)) C dX2_endsAt_20 (by decide) ?_
    refine V_goto C 25 dX2_endsAt_21 (by decide) ?_
    exact V_zret C hr hlk (Or.inr rfl) dX2_endsAt_25 h
  · have h := h.2 q2
    refine V_aload_n C 0 dX2_endsAt_10 rfl ?_
    refine V_get (k0 := 5) (Cn := RX2) (T := TX2) (N := 18) C (hs_mem0 h_b) rfl iw_X2_endsAt_X2 (by decide) rfl m_X2_endsAt_f34 ((ceX_H h_b) _) rfl dX2_endsAt_11 ?_
    refine V_iload_n C 1 dX2_endsAt_14 rfl ?_
    refine V_iald (t0 := 1) (L := 7) C (hs_mem h_b (by decide)) (hs_8 h_b) rfl g1 dX2_endsAt_15 ?_
    refine V_iload_n C 2 dX2_endsAt_16 rfl ?_
    refine V_icmp_ne C 24 dX2_endsAt_17 (by decide) (fun q3 => ?_) (fun q3 => ?_)
    · have h := h.1 q3
      refine V_iconst (v := (0 : Int32)) C dX2_endsAt_24 (by decide) ?_
      exact V_zret C hr hlk (Or.inl rfl) dX2_endsAt_25 h
    · have h := h.2 q3
      refine V_iconst (v := (1 : Int32)) C dX2_endsAt_20 (by decide) ?_
      refine V_goto C 25 dX2_endsAt_21 (by decide) ?_
      exact V_zret C hr hlk (Or.inr rfl) dX2_endsAt_25 h
def w_X2_across (b : Nat) (x1 : Int32) (x2 : Int32) (M : Mm) (post : Int32 → Mm → Prop) : Prop :=
  (vp_in x1 7) ∧ (((¬ (M.1 (b + 7) x1.toNatClampNeg) = x2) → (post (M.1 (b + 7) x1.toNatClampNeg) M)) ∧ (((M.1 (b + 7) x1.toNatClampNeg) = x2) → (post (M.1 (b + 8) x1.toNatClampNeg) M)))
theorem iw_X2_across_X2 : ∀ w ∈ u_ws RX2 TX2 18, w ∈ wsX2_across := by decide +kernel
theorem m_X2_across_f30 : Cond.fieldLink RX2 30 "ShameYards$House" "oneEnd" "[I" ∈ wsX2_across := by decide +kernel
theorem m_X2_across_f34 : Cond.fieldLink RX2 34 "ShameYards$House" "otherEnd" "[I" ∈ wsX2_across := by decide +kernel
set_option maxHeartbeats 4000000 in
set_option maxRecDepth 100000 in
theorem c_X2_across (l : Launch) (D : va_G) (cy : Nat → ClassId) (ad : Nat → Nat) (A : Nat → Prop) (G : Gd A ad nsX) (b : Nat) (h_b : isH b) (x1 : Int32) (x2 : Int32) (M : Mm) (post : Int32 → Mm → Prop) (h : w_X2_across b x1 x2 M post) : CI l yX2_across wsX2_across (rmL 2) D (tysC cy) A ad nsX (ceX ad cy) [.ref (ad b), .int x1, .int x2] M post := by
  refine Met_V (cc := cX2_across) (maxL := 3) (ret := (some .int)) (by decide) rfl G Lo_X (Nat.le_of_ble_eq_true rfl) rfl ?_
  intro p e s m args below meth c C hr hlk
  have C : Cx p s m args c cX2_across 3 RX2 wsX2_across D (tysC cy) A ad nsX (ceX ad cy) := C
  unfold w_X2_across at h
  refine V_aload_n C 0 dX2_across_0 rfl ?_
  refine V_get (k0 := 4) (Cn := RX2) (T := TX2) (N := 18) C (hs_mem0 h_b) rfl iw_X2_across_X2 (by decide) rfl m_X2_across_f30 ((ceX_H h_b) _) rfl dX2_across_1 ?_
  refine V_iload_n C 1 dX2_across_4 rfl ?_
  have g1 := h.1
  have h := h.2
  refine V_iald (t0 := 1) (L := 7) C (hs_mem h_b (by decide)) (hs_7 h_b) rfl g1 dX2_across_5 ?_
  refine V_iload_n C 2 dX2_across_6 rfl ?_
  refine V_icmp_ne C 19 dX2_across_7 (by decide) (fun q2 => ?_) (fun q2 => ?_)
  · have h := h.1 q2
    refine V_aload_n C 0 dX2_across_19 rfl ?_
    refine V_get (k0 := 4) (Cn := RX2) (T := TX2) (N := 18) C (hs_mem0 h_b) rfl iw_X2_across_X2 (by decide) rfl m_X2_across_f30 ((ceX_H h_b) _) rfl dX2_across_20 ?_
    refine V_iload_n C 1 dX2_across_23 rfl ?_
    refine V_iald (t0 := 1) (L := 7) C (hs_mem h_b (by decide)) (hs_7 h_b) rfl g1 dX2_across_24 ?_
    exact V_iret C hr hlk dX2_across_25 h
  · have h := h.2 q2
    refine V_aload_n C 0 dX2_across_10 rfl ?_
    refine V_get (k0 := 5) (Cn := RX2) (T := TX2) (N := 18) C (hs_mem0 h_b) rfl iw_X2_across_X2 (by decide) rfl m_X2_across_f34 ((ceX_H h_b) _) rfl dX2_across_11 ?_
    refine V_iload_n C 1 dX2_across_14 rfl ?_
    refine V_iald (t0 := 1) (L := 7) C (hs_mem h_b (by decide)) (hs_8 h_b) rfl g1 dX2_across_15 ?_
    refine V_goto C 25 dX2_across_16 (by decide) ?_
    exact V_iret C hr hlk dX2_across_25 h
def w_X2_doorsOf_4 (b : Nat) (post : Int32 → Mm → Prop)  : Nat → Int32 → Int32 → Int32 → Mm → Prop
  | 0 => fun _ _ _ _ => False
  | n + 1 => fun v1 v2 v3 M =>
    (((M.1 b 2) ≤ v3) → (post v2 M)) ∧ ((¬ (M.1 b 2) ≤ v3) → (w_X2_endsAt b v3 v1 M (fun r2 M3 => ((r2 = 0) → (w_X2_doorsOf_4 b post  n v1 v2 (v3 + 1) M3)) ∧ ((¬ r2 = 0) → (w_X2_doorsOf_4 b post  n v1 (v2 + 1) (v3 + 1) M3)))))
def w_X2_doorsOf (b : Nat) (x1 : Int32) (M : Mm) (post : Int32 → Mm → Prop) : Prop :=
  ∃ n0 : Nat, w_X2_doorsOf_4 b post  n0 x1 (0 : Int32) (0 : Int32) M
theorem iw_X2_doorsOf_X2 : ∀ w ∈ u_ws RX2 TX2 18, w ∈ wsX2_doorsOf := by decide +kernel
theorem m_X2_doorsOf_f87 : Cond.fieldLink RX2 87 "ShameYards$House" "passageCount" "I" ∈ wsX2_doorsOf := by decide +kernel
set_option maxHeartbeats 4000000 in
set_option maxRecDepth 100000 in
theorem c_X2_doorsOf (l : Launch) (D : va_G) (cy : Nat → ClassId) (ad : Nat → Nat) (A : Nat → Prop) (G : Gd A ad nsX) (b : Nat) (h_b : isH b) (x1 : Int32) (M : Mm) (post : Int32 → Mm → Prop) (h : w_X2_doorsOf b x1 M post) : CI l yX2_doorsOf wsX2_doorsOf (rmL 3) D (tysC cy) A ad nsX (ceX ad cy) [.ref (ad b), .int x1] M post := by
  refine Met_V (cc := cX2_doorsOf) (maxL := 4) (ret := (some .int)) (by decide) rfl G Lo_X (Nat.le_of_ble_eq_true rfl) rfl ?_
  intro p e s m args below meth c C hr hlk
  have C : Cx p s m args c cX2_doorsOf 4 RX2 wsX2_doorsOf D (tysC cy) A ad nsX (ceX ad cy) := C
  have L4 : ∀  (n : Nat) (v1 : Int32) (v2 : Int32) (v3 : Int32) (M : Mm), w_X2_doorsOf_4 b post  n v1 v2 v3 M → V p l e (rmL 3) s m args below meth c (MQ below (va_Qi post (Wd D (tysC cy) ad nsX (ceX ad cy)) A) args s 0 0 A) D A ad nsX (ceX ad cy) 4 M [(0, .ref (ad b)), (1, .int v1), (2, .int v2), (3, .int v3)] 4 [] := by
    intro  n
    induction n with
    | zero => intro v1 v2 v3 M h; exact h.elim
    | succ n ih =>
    intro v1 v2 v3 M h 
    unfold w_X2_doorsOf_4 at h
    refine V_iload_n C 3 dX2_doorsOf_4 rfl ?_
    refine V_aload_n C 0 dX2_doorsOf_5 rfl ?_
    refine V_get (k0 := 2) (Cn := RX2) (T := TX2) (N := 18) C (hs_mem0 h_b) rfl iw_X2_doorsOf_X2 (by decide) rfl m_X2_doorsOf_f87 ((ceX_H h_b) _) rfl dX2_doorsOf_6 ?_
    refine V_icmp_ge C 30 dX2_doorsOf_9 (by decide) (fun q1 => ?_) (fun q1 => ?_)
    · have h := h.1 q1
      refine V_iload_n C 2 dX2_doorsOf_30 rfl ?_
      exact V_iret C hr hlk dX2_doorsOf_31 h
    · have h := h.2 q1
      refine V_aload_n C 0 dX2_doorsOf_12 rfl ?_
      refine V_iload_n C 3 dX2_doorsOf_13 rfl ?_
      refine V_iload_n C 1 dX2_doorsOf_14 rfl ?_
      refine V_callVi (q := (RX2, TX2, 18)) (rest := []) C (hs_mem0 h_b) ((ceX_H h_b) _) rfl (c_X2_endsAt l D cy ad A G b h_b v3 v1 M _ h) (cwV 2 C.1.2.2.2.2 gX2_doorsOf_X2_endsAt rfl rfl rfl (by decide +kernel) ⟨by decide, by decide⟩) rfl rfl (Nat.le_of_ble_eq_true rfl) dX2_doorsOf_15 (fun r2 M3 h => ?_)
      obtain ⟨z4, h⟩ := h
      refine V_if_eq C 24 dX2_doorsOf_18 (by decide) (fun q5 => ?_) (fun q5 => ?_)
      · have h := h.1 q5
        refine V_iinc (v := (v3 + 1)) (lv' := [(3, .int (v3 + 1)), (0, .ref (ad b)), (1, .int v1), (2, .int v2)]) C 3 dX2_doorsOf_24 rfl rfl (by decide) rfl ?_
        refine V_goto C 4 dX2_doorsOf_27 (by decide) ?_
        refine V_drop (lv' := [(0, .ref (ad b)), (1, .int v1), (2, .int v2), (3, .int (v3 + 1))]) [1, 2, 3, 0] rfl ?_
        exact ih v1 v2 (v3 + 1) M3 h 
      · have h := h.2 q5
        refine V_iinc (v := (v2 + 1)) (lv' := [(2, .int (v2 + 1)), (0, .ref (ad b)), (1, .int v1), (3, .int v3)]) C 2 dX2_doorsOf_21 rfl rfl (by decide) rfl ?_
        refine V_iinc (v := (v3 + 1)) (lv' := [(3, .int (v3 + 1)), (2, .int (v2 + 1)), (0, .ref (ad b)), (1, .int v1)]) C 3 dX2_doorsOf_24 rfl rfl (by decide) rfl ?_
        refine V_goto C 4 dX2_doorsOf_27 (by decide) ?_
        refine V_drop (lv' := [(0, .ref (ad b)), (1, .int v1), (2, .int (v2 + 1)), (3, .int (v3 + 1))]) [2, 3, 1, 0] rfl ?_
        exact ih v1 (v2 + 1) (v3 + 1) M3 h 
  unfold w_X2_doorsOf at h
  refine V_iconst (v := (0 : Int32)) C dX2_doorsOf_0 (by decide) ?_
  refine V_istore_n (lv' := [(2, .int (0 : Int32)), (0, .ref (ad b)), (1, .int x1)]) C dX2_doorsOf_1 rfl (by decide) rfl ?_
  refine V_iconst (v := (0 : Int32)) C dX2_doorsOf_2 (by decide) ?_
  refine V_istore_n (lv' := [(3, .int (0 : Int32)), (2, .int (0 : Int32)), (0, .ref (ad b)), (1, .int x1)]) C dX2_doorsOf_3 rfl (by decide) rfl ?_
  refine V_drop (lv' := [(0, .ref (ad b)), (1, .int x1), (2, .int (0 : Int32)), (3, .int (0 : Int32))]) [2, 3, 1, 0] rfl ?_
  obtain ⟨n0, h⟩ := h
  exact L4  n0 x1 (0 : Int32) (0 : Int32) M h 
def w_X2_doorOf_5 (b : Nat) (post : Int32 → Mm → Prop)  : Nat → Int32 → Int32 → Int32 → Mm → Prop
  | 0 => fun _ _ _ _ => False
  | n + 1 => fun v1 v3 v4 M =>
    (((M.1 b 2) ≤ v4) → (post (-1 : Int32) M)) ∧ ((¬ (M.1 b 2) ≤ v4) → (w_X2_endsAt b v4 v1 M (fun r2 M3 => ((r2 = 0) → (w_X2_doorOf_5 b post  n v1 v3 (v4 + 1) M3)) ∧ ((¬ r2 = 0) → (((¬ v3 = 0) → (w_X2_doorOf_5 b post  n v1 (v3 + (-1)) (v4 + 1) M3)) ∧ ((v3 = 0) → (post v4 M3)))))))
def w_X2_doorOf (b : Nat) (x1 : Int32) (x2 : Int32) (M : Mm) (post : Int32 → Mm → Prop) : Prop :=
  ∃ n0 : Nat, w_X2_doorOf_5 b post  n0 x1 x2 (0 : Int32) M
theorem iw_X2_doorOf_X2 : ∀ w ∈ u_ws RX2 TX2 18, w ∈ wsX2_doorOf := by decide +kernel
theorem m_X2_doorOf_f87 : Cond.fieldLink RX2 87 "ShameYards$House" "passageCount" "I" ∈ wsX2_doorOf := by decide +kernel
set_option maxHeartbeats 4000000 in
set_option maxRecDepth 100000 in
theorem c_X2_doorOf (l : Launch) (D : va_G) (cy : Nat → ClassId) (ad : Nat → Nat) (A : Nat → Prop) (G : Gd A ad nsX) (b : Nat) (h_b : isH b) (x1 : Int32) (x2 : Int32) (M : Mm) (post : Int32 → Mm → Prop) (h : w_X2_doorOf b x1 x2 M post) : CI l yX2_doorOf wsX2_doorOf (rmL 3) D (tysC cy) A ad nsX (ceX ad cy) [.ref (ad b), .int x1, .int x2] M post := by
  refine Met_V (cc := cX2_doorOf) (maxL := 5) (ret := (some .int)) (by decide) rfl G Lo_X (Nat.le_of_ble_eq_true rfl) rfl ?_
  intro p e s m args below meth c C hr hlk
  have C : Cx p s m args c cX2_doorOf 5 RX2 wsX2_doorOf D (tysC cy) A ad nsX (ceX ad cy) := C
  have L5 : ∀  (n : Nat) (v1 : Int32) (v3 : Int32) (v4 : Int32) (M : Mm), w_X2_doorOf_5 b post  n v1 v3 v4 M → V p l e (rmL 3) s m args below meth c (MQ below (va_Qi post (Wd D (tysC cy) ad nsX (ceX ad cy)) A) args s 0 0 A) D A ad nsX (ceX ad cy) 5 M [(0, .ref (ad b)), (1, .int v1), (3, .int v3), (4, .int v4)] 5 [] := by
    intro  n
    induction n with
    | zero => intro v1 v3 v4 M h; exact h.elim
    | succ n ih =>
    intro v1 v3 v4 M h 
    unfold w_X2_doorOf_5 at h
    refine V_iload C 3 dX2_doorOf_5 rfl ?_
    refine V_aload_n C 0 dX2_doorOf_7 rfl ?_
    refine V_get (k0 := 2) (Cn := RX2) (T := TX2) (N := 18) C (hs_mem0 h_b) rfl iw_X2_doorOf_X2 (by decide) rfl m_X2_doorOf_f87 ((ceX_H h_b) _) rfl dX2_doorOf_8 ?_
    refine V_icmp_ge C 40 dX2_doorOf_11 (by decide) (fun q1 => ?_) (fun q1 => ?_)
    · have h := h.1 q1
      refine V_iconst (v := (-1 : Int32)) C dX2_doorOf_40 (by decide) ?_
      exact V_iret C hr hlk dX2_doorOf_41 h
    · have h := h.2 q1
      refine V_aload_n C 0 dX2_doorOf_14 rfl ?_
      refine V_iload C 3 dX2_doorOf_15 rfl ?_
      refine V_iload_n C 1 dX2_doorOf_17 rfl ?_
      refine V_callVi (q := (RX2, TX2, 18)) (rest := []) C (hs_mem0 h_b) ((ceX_H h_b) _) rfl (c_X2_endsAt l D cy ad A G b h_b v4 v1 M _ h) (cwV 2 C.1.2.2.2.2 gX2_doorOf_X2_endsAt rfl rfl rfl (by decide +kernel) ⟨by decide, by decide⟩) rfl rfl (Nat.le_of_ble_eq_true rfl) dX2_doorOf_18 (fun r2 M3 h => ?_)
      obtain ⟨z4, h⟩ := h
      refine V_if_eq C 34 dX2_doorOf_21 (by decide) (fun q5 => ?_) (fun q5 => ?_)
      · have h := h.1 q5
        refine V_iinc (v := (v4 + 1)) (lv' := [(4, .int (v4 + 1)), (0, .ref (ad b)), (1, .int v1), (3, .int v3)]) C 3 dX2_doorOf_34 rfl rfl (by decide) rfl ?_
        refine V_goto C 5 dX2_doorOf_37 (by decide) ?_
        refine V_drop (lv' := [(0, .ref (ad b)), (1, .int v1), (3, .int v3), (4, .int (v4 + 1))]) [1, 2, 3, 0] rfl ?_
        exact ih v1 v3 (v4 + 1) M3 h 
      · have h := h.2 q5
        refine V_iload_n C 2 dX2_doorOf_24 rfl ?_
        refine V_if_ne C 31 dX2_doorOf_25 (by decide) (fun q6 => ?_) (fun q6 => ?_)
        · have h := h.1 q6
          refine V_iinc (v := (v3 + (-1))) (lv' := [(3, .int (v3 + (-1))), (0, .ref (ad b)), (1, .int v1), (4, .int v4)]) C 2 dX2_doorOf_31 rfl rfl (by decide) rfl ?_
          refine V_iinc (v := (v4 + 1)) (lv' := [(4, .int (v4 + 1)), (3, .int (v3 + (-1))), (0, .ref (ad b)), (1, .int v1)]) C 3 dX2_doorOf_34 rfl rfl (by decide) rfl ?_
          refine V_goto C 5 dX2_doorOf_37 (by decide) ?_
          refine V_drop (lv' := [(0, .ref (ad b)), (1, .int v1), (3, .int (v3 + (-1))), (4, .int (v4 + 1))]) [2, 3, 1, 0] rfl ?_
          exact ih v1 (v3 + (-1)) (v4 + 1) M3 h 
        · have h := h.2 q6
          refine V_iload C 3 dX2_doorOf_28 rfl ?_
          exact V_iret C hr hlk dX2_doorOf_30 h
  unfold w_X2_doorOf at h
  refine V_iload_n C 2 dX2_doorOf_0 rfl ?_
  refine V_istore_n (lv' := [(3, .int x2), (0, .ref (ad b)), (1, .int x1), (2, .int x2)]) C dX2_doorOf_1 rfl (by decide) rfl ?_
  refine V_iconst (v := (0 : Int32)) C dX2_doorOf_2 (by decide) ?_
  refine V_istore (lv' := [(4, .int (0 : Int32)), (3, .int x2), (0, .ref (ad b)), (1, .int x1), (2, .int x2)]) C dX2_doorOf_3 (by decide) rfl ?_
  refine V_drop (lv' := [(0, .ref (ad b)), (1, .int x1), (3, .int x2), (4, .int (0 : Int32))]) [2, 3, 1, 0] rfl ?_
  obtain ⟨n0, h⟩ := h
  exact L5  n0 x1 x2 (0 : Int32) M h 
def w_X2_mayLeaveBy (b : Nat) (x1 : Int32) (x2 : Int32) (x3 : Int32) (M : Mm) (post : Int32 → Mm → Prop) : Prop :=
  (vp_in x1 5) ∧ (w_X2_endsAt b x2 (M.1 (b + 13) x1.toNatClampNeg) M (fun r2 M3 => ((r2 = 0) → (post (0 : Int32) M3)) ∧ ((¬ r2 = 0) → (((x3 = (-1 : Int32)) → (post (1 : Int32) M3)) ∧ ((¬ x3 = (-1 : Int32)) → ((vp_in x3 5) ∧ (((¬ (M3.1 (b + 13) x3.toNatClampNeg) = (M3.1 (b + 13) x1.toNatClampNeg)) → (post (0 : Int32) M3)) ∧ (((M3.1 (b + 13) x3.toNatClampNeg) = (M3.1 (b + 13) x1.toNatClampNeg)) → (post (1 : Int32) M3)))))))))
theorem iw_X2_mayLeaveBy_X2 : ∀ w ∈ u_ws RX2 TX2 18, w ∈ wsX2_mayLeaveBy := by decide +kernel
theorem m_X2_mayLeaveBy_f49 : Cond.fieldLink RX2 49 "ShameYards$House" "places" "[I" ∈ wsX2_mayLeaveBy := by decide +kernel
set_option maxHeartbeats 4000000 in
set_option maxRecDepth 100000 in
theorem c_X2_mayLeaveBy (l : Launch) (D : va_G) (cy : Nat → ClassId) (ad : Nat → Nat) (A : Nat → Prop) (G : Gd A ad nsX) (b : Nat) (h_b : isH b) (x1 : Int32) (x2 : Int32) (x3 : Int32) (M : Mm) (post : Int32 → Mm → Prop) (h : w_X2_mayLeaveBy b x1 x2 x3 M post) : CI l yX2_mayLeaveBy wsX2_mayLeaveBy (rmL 3) D (tysC cy) A ad nsX (ceX ad cy) [.ref (ad b), .int x1, .int x2, .int x3] M (fun r M' => (r = 0 ∨ r = 1) ∧ post r M') := by
  refine Met_V (cc := cX2_mayLeaveBy) (maxL := 4) (ret := (some .boolean)) (by decide) rfl G Lo_X (Nat.le_of_ble_eq_true rfl) rfl ?_
  intro p e s m args below meth c C hr hlk
  have C : Cx p s m args c cX2_mayLeaveBy 4 RX2 wsX2_mayLeaveBy D (tysC cy) A ad nsX (ceX ad cy) := C
  unfold w_X2_mayLeaveBy at h
  refine V_aload_n C 0 dX2_mayLeaveBy_0 rfl ?_
  refine V_iload_n C 2 dX2_mayLeaveBy_1 rfl ?_
  refine V_aload_n C 0 dX2_mayLeaveBy_2 rfl ?_
  refine V_get (k0 := 10) (Cn := RX2) (T := TX2) (N := 18) C (hs_mem0 h_b) rfl iw_X2_mayLeaveBy_X2 (by decide) rfl m_X2_mayLeaveBy_f49 ((ceX_H h_b) _) rfl dX2_mayLeaveBy_3 ?_
  refine V_iload_n C 1 dX2_mayLeaveBy_6 rfl ?_
  have g1 := h.1
  have h := h.2
  refine V_iald (t0 := 1) (L := 5) C (hs_mem h_b (by decide)) (hs_13 h_b) rfl g1 dX2_mayLeaveBy_7 ?_
  refine V_callVi (q := (RX2, TX2, 18)) (rest := []) C (hs_mem0 h_b) ((ceX_H h_b) _) rfl (c_X2_endsAt l D cy ad A G b h_b x2 (M.1 (b + 13) x1.toNatClampNeg) M _ h) (cwV 2 C.1.2.2.2.2 gX2_mayLeaveBy_X2_endsAt rfl rfl rfl (by decide +kernel) ⟨by decide, by decide⟩) rfl rfl (Nat.le_of_ble_eq_true rfl) dX2_mayLeaveBy_8 (fun r2 M3 h => ?_)
  obtain ⟨z4, h⟩ := h
  refine V_if_eq C 38 dX2_mayLeaveBy_11 (by decide) (fun q5 => ?_) (fun q5 => ?_)
  · have h := h.1 q5
    refine V_iconst (v := (0 : Int32)) C dX2_mayLeaveBy_38 (by decide) ?_
    exact V_zret C hr hlk (Or.inl rfl) dX2_mayLeaveBy_39 h
  · have h := h.2 q5
    refine V_iload_n C 3 dX2_mayLeaveBy_14 rfl ?_
    refine V_iconst (v := (-1 : Int32)) C dX2_mayLeaveBy_15 (by decide) ?_
    refine V_icmp_eq C 34 dX2_mayLeaveBy_16 (by decide) (fun q6 => ?_) (fun q6 => ?_)
    · have h := h.1 q6
      refine V_iconst (v := (1 : Int32)) C dX2_mayLeaveBy_34 (by decide) ?_
      refine V_goto C 39 dX2_mayLeaveBy_35 (by decide) ?_
      exact V_zret C hr hlk (Or.inr rfl) dX2_mayLeaveBy_39 h
    · have h := h.2 q6
      refine V_aload_n C 0 dX2_mayLeaveBy_19 rfl ?_
      refine V_get (k0 := 10) (Cn := RX2) (T := TX2) (N := 18) C (hs_mem0 h_b) rfl iw_X2_mayLeaveBy_X2 (by decide) rfl m_X2_mayLeaveBy_f49 ((ceX_H h_b) _) rfl dX2_mayLeaveBy_20 ?_
      refine V_iload_n C 3 dX2_mayLeaveBy_23 rfl ?_
      have g7 := h.1
      have h := h.2
      refine V_iald (t0 := 1) (L := 5) C (hs_mem h_b (by decide)) (hs_13 h_b) rfl g7 dX2_mayLeaveBy_24 ?_
      refine V_aload_n C 0 dX2_mayLeaveBy_25 rfl ?_
      refine V_get (k0 := 10) (Cn := RX2) (T := TX2) (N := 18) C (hs_mem0 h_b) rfl iw_X2_mayLeaveBy_X2 (by decide) rfl m_X2_mayLeaveBy_f49 ((ceX_H h_b) _) rfl dX2_mayLeaveBy_26 ?_
      refine V_iload_n C 1 dX2_mayLeaveBy_29 rfl ?_
      refine V_iald (t0 := 1) (L := 5) C (hs_mem h_b (by decide)) (hs_13 h_b) rfl g1 dX2_mayLeaveBy_30 ?_
      refine V_icmp_ne C 38 dX2_mayLeaveBy_31 (by decide) (fun q8 => ?_) (fun q8 => ?_)
      · have h := h.1 q8
        refine V_iconst (v := (0 : Int32)) C dX2_mayLeaveBy_38 (by decide) ?_
        exact V_zret C hr hlk (Or.inl rfl) dX2_mayLeaveBy_39 h
      · have h := h.2 q8
        refine V_iconst (v := (1 : Int32)) C dX2_mayLeaveBy_34 (by decide) ?_
        refine V_goto C 39 dX2_mayLeaveBy_35 (by decide) ?_
        exact V_zret C hr hlk (Or.inr rfl) dX2_mayLeaveBy_39 h
def w_X2_clerk (b : Nat) (x1 : Int32) (M : Mm) (post : Nat → Mm → Prop) : Prop :=
  (vp_in x1 5) ∧ ((vp_in (M.1 (b + 10) x1.toNatClampNeg) 5) ∧ (post (((b + 1) + 1) + (M.1 (b + 10) x1.toNatClampNeg).toNatClampNeg) M))
theorem iw_X2_clerk_X2 : ∀ w ∈ u_ws RX2 TX2 18, w ∈ wsX2_clerk := by decide +kernel
theorem m_X2_clerk_f24 : Cond.fieldLink RX2 24 "ShameYards$House" "clerks" "[LShameYards$Clerk;" ∈ wsX2_clerk := by decide +kernel
theorem m_X2_clerk_f40 : Cond.fieldLink RX2 40 "ShameYards$House" "kinds" "[I" ∈ wsX2_clerk := by decide +kernel
set_option maxHeartbeats 4000000 in
set_option maxRecDepth 100000 in
theorem c_X2_clerk (l : Launch) (D : va_G) (cy : Nat → ClassId) (ad : Nat → Nat) (A : Nat → Prop) (G : Gd A ad nsX) (b : Nat) (h_b : isH b) (x1 : Int32) (M : Mm) (post : Nat → Mm → Prop) (h : w_X2_clerk b x1 M post) : CR l yX2_clerk wsX2_clerk (rmL 2) D (tysC cy) A ad nsX (ceX ad cy) [.ref (ad b), .int x1] M post := by
  refine Met_V (cc := cX2_clerk) (maxL := 2) (ret := (some (.object "ShameYards$Clerk"))) (by decide) rfl G Lo_X (Nat.le_of_ble_eq_true rfl) rfl ?_
  intro p e s m args below meth c C hr hlk
  have C : Cx p s m args c cX2_clerk 2 RX2 wsX2_clerk D (tysC cy) A ad nsX (ceX ad cy) := C
  unfold w_X2_clerk at h
  refine V_aload_n C 0 dX2_clerk_0 rfl ?_
  refine V_get (k0 := 0) (Cn := RX2) (T := TX2) (N := 18) C (hs_mem0 h_b) rfl iw_X2_clerk_X2 (by decide) rfl m_X2_clerk_f24 ((ceX_H h_b) _) rfl dX2_clerk_1 ?_
  refine V_aload_n C 0 dX2_clerk_4 rfl ?_
  refine V_get (k0 := 7) (Cn := RX2) (T := TX2) (N := 18) C (hs_mem0 h_b) rfl iw_X2_clerk_X2 (by decide) rfl m_X2_clerk_f40 ((ceX_H h_b) _) rfl dX2_clerk_5 ?_
  refine V_iload_n C 1 dX2_clerk_8 rfl ?_
  have g1 := h.1
  have h := h.2
  refine V_iald (t0 := 1) (L := 5) C (hs_mem h_b (by decide)) (hs_10 h_b) rfl g1 dX2_clerk_9 ?_
  have g2 := h.1
  have h := h.2
  refine V_aald (t0 := 3) (L := 5) (r := (((b + 1) + 1) + (M.1 (b + 10) x1.toNatClampNeg).toNatClampNeg)) C (hs_mem h_b (by decide)) ((hs_1 h_b) _) rfl rfl g2 (row_at g2) dX2_clerk_10 ?_
  exact V_aret C hr hlk dX2_clerk_11 h
set_option maxHeartbeats 4000000 in
set_option maxRecDepth 100000 in
theorem V_yards_X2_aloneSteps {p : Program} {l : Launch} {e : Env} {s : State} {m : MethodId} {args : Array Value} {below : List Frame} {meth : Method} {c : Code} {Q : State → Prop} {D : va_G} {A : Nat → Prop} {ad : Nat → Nat} {cy : Nat → ClassId} {M : Mm} {lv : List (Nat × Value)} {pc : Nat} {rest : List Value} (C : Cx p s m args c cX2_aloneSteps 3 RX2 wsX2_aloneSteps D (tysC cy) A ad nsX (ceX ad cy)) (r : Nat) (x1 x2 x3 : Int32) {post : Int32 → Mm → Prop} (h : w_yards r x1 x2 x3 M post) (hW : (rest.map fun v => v.category).sum ≤ 8) (hd : decode cX2_aloneSteps pc = .ok (.invokevirtual 122, 3)) (k : ∀ (r1 : Int32) (M1 : Mm), post r1 M1 → V p l e (rmL 4) s m args below meth c Q D A ad nsX (ceX ad cy) 3 M1 lv (pc + 3) (.int r1 :: rest)) : V p l e (rmL 4) s m args below meth c Q D A ad nsX (ceX ad cy) 3 M lv pc (.int x3 :: .int x2 :: .int x1 :: .ref (ad r) :: rest) := by
  obtain ⟨hr, ⟨hk, h⟩ | ⟨hk, h⟩ | ⟨hk, h⟩ | ⟨hk, h⟩ | ⟨hk, h⟩⟩ := h
  · exact V_callVi (q := (RX1, TX1, 0)) (rest := rest) C (nsX_mem hr) (ceX_k1 hk _) rfl (c_X1_yards l D cy ad A C.2.2.1 r x1 x2 x3 M _ h) (cwV 3 C.1.2.2.2.2 gX2_aloneSteps_X1_yards rfl rfl rfl (by decide +kernel) ⟨by decide, by decide⟩) rfl rfl hW hd k
  · exact V_callO (q := (RX0, TX0, 0)) (rest := rest) C (nsX_mem hr) (ceX_k0 hk _) rfl (c_X0_yards l D cy ad A C.2.2.1 r hr hk x1 x2 x3 M _ h) (va_cwO 3 C.1.2.2.2.2 gX2_aloneSteps_X0_yards_u122X0 rfl rfl rfl (show Cond.code ⟨"ShameYards$Clerk", "yards", "(III)I"⟩ cX1_yards 4 (some .int) ∈ wsX2_aloneSteps by decide +kernel) (by decide +kernel) ⟨by decide, by decide⟩) rfl rfl hW hd k
  · exact V_callO (q := (RX4, TX4, 0)) (rest := rest) C (nsX_mem hr) (ceX_k4 hk _) rfl (c_X4_yards l D cy ad A C.2.2.1 r x1 x2 x3 M _ h) (va_cwO 3 C.1.2.2.2.2 gX2_aloneSteps_X4_yards_u122X4 rfl rfl rfl (show Cond.code ⟨"ShameYards$Clerk", "yards", "(III)I"⟩ cX1_yards 4 (some .int) ∈ wsX2_aloneSteps by decide +kernel) (by decide +kernel) ⟨by decide, by decide⟩) rfl rfl hW hd k
  · exact V_callO (q := (RX10, TX10, 0)) (rest := rest) C (nsX_mem hr) (ceX_k9 hk _) rfl (c_X10_yards l D cy ad A C.2.2.1 r hr hk x1 x2 x3 M _ h) (va_cwO 3 C.1.2.2.2.2 gX2_aloneSteps_X10_yards_u122X10 rfl rfl rfl (show Cond.code ⟨"ShameYards$Clerk", "yards", "(III)I"⟩ cX1_yards 4 (some .int) ∈ wsX2_aloneSteps by decide +kernel) (by decide +kernel) ⟨by decide, by decide⟩) rfl rfl hW hd k
  · exact V_callO (q := (RX3, TX3, 0)) (rest := rest) C (nsX_mem hr) (ceX_k3 hk _) rfl (c_X3_yards l D cy ad A C.2.2.1 r hr hk x1 x2 x3 M _ h) (va_cwO 3 C.1.2.2.2.2 gX2_aloneSteps_X3_yards_u122X3 rfl rfl rfl (show Cond.code ⟨"ShameYards$Clerk", "yards", "(III)I"⟩ cX1_yards 4 (some .int) ∈ wsX2_aloneSteps by decide +kernel) (by decide +kernel) ⟨by decide, by decide⟩) rfl rfl hW hd k
def w_X2_aloneSteps (b : Nat) (x1 : Int32) (x2 : Int32) (M : Mm) (post : Int32 → Mm → Prop) : Prop :=
  w_X2_clerk b x1 M (fun r1 M2 => (vp_in x2 7) ∧ ((vp_in x1 5) ∧ (w_yards r1 (M2.1 (b + 9) x2.toNatClampNeg) (M2.1 (b + 11) x1.toNatClampNeg) (M2.1 (b + 12) x1.toNatClampNeg) M2 (fun r6 M7 => post r6 M7))))
theorem iw_X2_aloneSteps_X2 : ∀ w ∈ u_ws RX2 TX2 18, w ∈ wsX2_aloneSteps := by decide +kernel
theorem m_X2_aloneSteps_f37 : Cond.fieldLink RX2 37 "ShameYards$House" "lengths" "[I" ∈ wsX2_aloneSteps := by decide +kernel
theorem m_X2_aloneSteps_f43 : Cond.fieldLink RX2 43 "ShameYards$House" "deeds" "[I" ∈ wsX2_aloneSteps := by decide +kernel
theorem m_X2_aloneSteps_f46 : Cond.fieldLink RX2 46 "ShameYards$House" "lies" "[I" ∈ wsX2_aloneSteps := by decide +kernel
set_option maxHeartbeats 4000000 in
set_option maxRecDepth 100000 in
theorem c_X2_aloneSteps (l : Launch) (D : va_G) (cy : Nat → ClassId) (ad : Nat → Nat) (A : Nat → Prop) (G : Gd A ad nsX) (b : Nat) (h_b : isH b) (x1 : Int32) (x2 : Int32) (M : Mm) (post : Int32 → Mm → Prop) (h : w_X2_aloneSteps b x1 x2 M post) : CI l yX2_aloneSteps wsX2_aloneSteps (rmL 4) D (tysC cy) A ad nsX (ceX ad cy) [.ref (ad b), .int x1, .int x2] M post := by
  refine Met_V (cc := cX2_aloneSteps) (maxL := 3) (ret := (some .int)) (by decide) rfl G Lo_X (Nat.le_of_ble_eq_true rfl) rfl ?_
  intro p e s m args below meth c C hr hlk
  have C : Cx p s m args c cX2_aloneSteps 3 RX2 wsX2_aloneSteps D (tysC cy) A ad nsX (ceX ad cy) := C
  unfold w_X2_aloneSteps at h
  refine V_aload_n C 0 dX2_aloneSteps_0 rfl ?_
  refine V_iload_n C 1 dX2_aloneSteps_1 rfl ?_
  refine V_callVr (q := (RX2, TX2, 18)) (rest := []) C (hs_mem0 h_b) ((ceX_H h_b) _) rfl (c_X2_clerk l D cy ad A G b h_b x1 M _ h) (cwV 1 C.1.2.2.2.2 gX2_aloneSteps_X2_clerk rfl rfl rfl (by decide +kernel) ⟨by decide, by decide⟩) rfl rfl (Nat.le_of_ble_eq_true rfl) dX2_aloneSteps_2 (fun r1 M2 h => ?_)
  refine V_aload_n C 0 dX2_aloneSteps_5 rfl ?_
  refine V_get (k0 := 6) (Cn := RX2) (T := TX2) (N := 18) C (hs_mem0 h_b) rfl iw_X2_aloneSteps_X2 (by decide) rfl m_X2_aloneSteps_f37 ((ceX_H h_b) _) rfl dX2_aloneSteps_6 ?_
  refine V_iload_n C 2 dX2_aloneSteps_9 rfl ?_
  have g4 := h.1
  have h := h.2
  refine V_iald (t0 := 1) (L := 7) C (hs_mem h_b (by decide)) (hs_9 h_b) rfl g4 dX2_aloneSteps_10 ?_
  refine V_aload_n C 0 dX2_aloneSteps_11 rfl ?_
  refine V_get (k0 := 8) (Cn := RX2) (T := TX2) (N := 18) C (hs_mem0 h_b) rfl iw_X2_aloneSteps_X2 (by decide) rfl m_X2_aloneSteps_f43 ((ceX_H h_b) _) rfl dX2_aloneSteps_12 ?_
  refine V_iload_n C 1 dX2_aloneSteps_15 rfl ?_
  have g5 := h.1
  have h := h.2
  refine V_iald (t0 := 1) (L := 5) C (hs_mem h_b (by decide)) (hs_11 h_b) rfl g5 dX2_aloneSteps_16 ?_
  refine V_aload_n C 0 dX2_aloneSteps_17 rfl ?_
  refine V_get (k0 := 9) (Cn := RX2) (T := TX2) (N := 18) C (hs_mem0 h_b) rfl iw_X2_aloneSteps_X2 (by decide) rfl m_X2_aloneSteps_f46 ((ceX_H h_b) _) rfl dX2_aloneSteps_18 ?_
  refine V_iload_n C 1 dX2_aloneSteps_21 rfl ?_
  refine V_iald (t0 := 1) (L := 5) C (hs_mem h_b (by decide)) (hs_12 h_b) rfl g5 dX2_aloneSteps_22 ?_
  refine V_yards_X2_aloneSteps (rest := []) C r1 (M2.1 (b + 9) x2.toNatClampNeg) (M2.1 (b + 11) x1.toNatClampNeg) (M2.1 (b + 12) x1.toNatClampNeg) h (Nat.le_of_ble_eq_true rfl) dX2_aloneSteps_23 (fun r6 M7 h => ?_)
  exact V_iret C hr hlk dX2_aloneSteps_26 h
set_option maxHeartbeats 4000000 in
set_option maxRecDepth 100000 in
theorem V_yards_X2_stepsWithLies {p : Program} {l : Launch} {e : Env} {s : State} {m : MethodId} {args : Array Value} {below : List Frame} {meth : Method} {c : Code} {Q : State → Prop} {D : va_G} {A : Nat → Prop} {ad : Nat → Nat} {cy : Nat → ClassId} {M : Mm} {lv : List (Nat × Value)} {pc : Nat} {rest : List Value} (C : Cx p s m args c cX2_stepsWithLies 7 RX2 wsX2_stepsWithLies D (tysC cy) A ad nsX (ceX ad cy)) (r : Nat) (x1 x2 x3 : Int32) {post : Int32 → Mm → Prop} (h : w_yards r x1 x2 x3 M post) (hW : (rest.map fun v => v.category).sum ≤ 8) (hd : decode cX2_stepsWithLies pc = .ok (.invokevirtual 122, 3)) (k : ∀ (r1 : Int32) (M1 : Mm), post r1 M1 → V p l e (rmL 4) s m args below meth c Q D A ad nsX (ceX ad cy) 7 M1 lv (pc + 3) (.int r1 :: rest)) : V p l e (rmL 4) s m args below meth c Q D A ad nsX (ceX ad cy) 7 M lv pc (.int x3 :: .int x2 :: .int x1 :: .ref (ad r) :: rest) := by
  obtain ⟨hr, ⟨hk, h⟩ | ⟨hk, h⟩ | ⟨hk, h⟩ | ⟨hk, h⟩ | ⟨hk, h⟩⟩ := h
  · exact V_callVi (q := (RX1, TX1, 0)) (rest := rest) C (nsX_mem hr) (ceX_k1 hk _) rfl (c_X1_yards l D cy ad A C.2.2.1 r x1 x2 x3 M _ h) (cwV 3 C.1.2.2.2.2 gX2_stepsWithLies_X1_yards rfl rfl rfl (by decide +kernel) ⟨by decide, by decide⟩) rfl rfl hW hd k
  · exact V_callO (q := (RX0, TX0, 0)) (rest := rest) C (nsX_mem hr) (ceX_k0 hk _) rfl (c_X0_yards l D cy ad A C.2.2.1 r hr hk x1 x2 x3 M _ h) (va_cwO 3 C.1.2.2.2.2 gX2_stepsWithLies_X0_yards_u122X0 rfl rfl rfl (show Cond.code ⟨"ShameYards$Clerk", "yards", "(III)I"⟩ cX1_yards 4 (some .int) ∈ wsX2_stepsWithLies by decide +kernel) (by decide +kernel) ⟨by decide, by decide⟩) rfl rfl hW hd k
  · exact V_callO (q := (RX4, TX4, 0)) (rest := rest) C (nsX_mem hr) (ceX_k4 hk _) rfl (c_X4_yards l D cy ad A C.2.2.1 r x1 x2 x3 M _ h) (va_cwO 3 C.1.2.2.2.2 gX2_stepsWithLies_X4_yards_u122X4 rfl rfl rfl (show Cond.code ⟨"ShameYards$Clerk", "yards", "(III)I"⟩ cX1_yards 4 (some .int) ∈ wsX2_stepsWithLies by decide +kernel) (by decide +kernel) ⟨by decide, by decide⟩) rfl rfl hW hd k
  · exact V_callO (q := (RX10, TX10, 0)) (rest := rest) C (nsX_mem hr) (ceX_k9 hk _) rfl (c_X10_yards l D cy ad A C.2.2.1 r hr hk x1 x2 x3 M _ h) (va_cwO 3 C.1.2.2.2.2 gX2_stepsWithLies_X10_yards_u122X10 rfl rfl rfl (show Cond.code ⟨"ShameYards$Clerk", "yards", "(III)I"⟩ cX1_yards 4 (some .int) ∈ wsX2_stepsWithLies by decide +kernel) (by decide +kernel) ⟨by decide, by decide⟩) rfl rfl hW hd k
  · exact V_callO (q := (RX3, TX3, 0)) (rest := rest) C (nsX_mem hr) (ceX_k3 hk _) rfl (c_X3_yards l D cy ad A C.2.2.1 r hr hk x1 x2 x3 M _ h) (va_cwO 3 C.1.2.2.2.2 gX2_stepsWithLies_X3_yards_u122X3 rfl rfl rfl (show Cond.code ⟨"ShameYards$Clerk", "yards", "(III)I"⟩ cX1_yards 4 (some .int) ∈ wsX2_stepsWithLies by decide +kernel) (by decide +kernel) ⟨by decide, by decide⟩) rfl rfl hW hd k
def w_X2_stepsWithLies (b : Nat) (x1 : Int32) (x2 : Int32) (x3 : Int32) (x4 : Int32) (M : Mm) (post : Int32 → Mm → Prop) : Prop :=
  (vp_in x2 7) ∧ (w_X2_clerk b x1 M (fun r2 M3 => (vp_in x1 5) ∧ (w_yards r2 (M.1 (b + 9) x2.toNatClampNeg) (M3.1 (b + 11) x1.toNatClampNeg) x4 M3 (fun r6 M7 => ((¬ x3 = (-1 : Int32)) → (w_X2_clerk b x3 M7 (fun r10 M11 => (vp_in x3 5) ∧ (w_yards r10 (M.1 (b + 9) x2.toNatClampNeg) (M11.1 (b + 11) x3.toNatClampNeg) (M11.1 (b + 12) x3.toNatClampNeg) M11 (fun r14 M15 => post (((r6 + r14) + (1 : Int32)) / (2 : Int32)) M15))))) ∧ ((x3 = (-1 : Int32)) → (post r6 M7))))))
theorem iw_X2_stepsWithLies_X2 : ∀ w ∈ u_ws RX2 TX2 18, w ∈ wsX2_stepsWithLies := by decide +kernel
theorem m_X2_stepsWithLies_f37 : Cond.fieldLink RX2 37 "ShameYards$House" "lengths" "[I" ∈ wsX2_stepsWithLies := by decide +kernel
theorem m_X2_stepsWithLies_f43 : Cond.fieldLink RX2 43 "ShameYards$House" "deeds" "[I" ∈ wsX2_stepsWithLies := by decide +kernel
theorem m_X2_stepsWithLies_f46 : Cond.fieldLink RX2 46 "ShameYards$House" "lies" "[I" ∈ wsX2_stepsWithLies := by decide +kernel
set_option maxHeartbeats 4000000 in
set_option maxRecDepth 100000 in
theorem c_X2_stepsWithLies (l : Launch) (D : va_G) (cy : Nat → ClassId) (ad : Nat → Nat) (A : Nat → Prop) (G : Gd A ad nsX) (b : Nat) (h_b : isH b) (x1 : Int32) (x2 : Int32) (x3 : Int32) (x4 : Int32) (M : Mm) (post : Int32 → Mm → Prop) (h : w_X2_stepsWithLies b x1 x2 x3 x4 M post) : CI l yX2_stepsWithLies wsX2_stepsWithLies (rmL 4) D (tysC cy) A ad nsX (ceX ad cy) [.ref (ad b), .int x1, .int x2, .int x3, .int x4] M post := by
  refine Met_V (cc := cX2_stepsWithLies) (maxL := 7) (ret := (some .int)) (by decide) rfl G Lo_X (Nat.le_of_ble_eq_true rfl) rfl ?_
  intro p e s m args below meth c C hr hlk
  have C : Cx p s m args c cX2_stepsWithLies 7 RX2 wsX2_stepsWithLies D (tysC cy) A ad nsX (ceX ad cy) := C
  unfold w_X2_stepsWithLies at h
  refine V_aload_n C 0 dX2_stepsWithLies_0 rfl ?_
  refine V_get (k0 := 6) (Cn := RX2) (T := TX2) (N := 18) C (hs_mem0 h_b) rfl iw_X2_stepsWithLies_X2 (by decide) rfl m_X2_stepsWithLies_f37 ((ceX_H h_b) _) rfl dX2_stepsWithLies_1 ?_
  refine V_iload_n C 2 dX2_stepsWithLies_4 rfl ?_
  have g1 := h.1
  have h := h.2
  refine V_iald (t0 := 1) (L := 7) C (hs_mem h_b (by decide)) (hs_9 h_b) rfl g1 dX2_stepsWithLies_5 ?_
  refine V_istore (lv' := [(5, .int (M.1 (b + 9) x2.toNatClampNeg)), (0, .ref (ad b)), (1, .int x1), (2, .int x2), (3, .int x3), (4, .int x4)]) C dX2_stepsWithLies_6 (by decide) rfl ?_
  refine V_aload_n C 1 dX2_stepsWithLies_8 rfl ?_
  refine V_iload_n C 2 dX2_stepsWithLies_9 rfl ?_
  refine V_callVr (q := (RX2, TX2, 18)) (rest := []) C (hs_mem0 h_b) ((ceX_H h_b) _) rfl (c_X2_clerk l D cy ad A G b h_b x1 M _ h) (cwV 1 C.1.2.2.2.2 gX2_stepsWithLies_X2_clerk rfl rfl rfl (by decide +kernel) ⟨by decide, by decide⟩) rfl rfl (Nat.le_of_ble_eq_true rfl) dX2_stepsWithLies_10 (fun r2 M3 h => ?_)
  refine V_iload C 0 dX2_stepsWithLies_13 rfl ?_
  refine V_aload_n C 1 dX2_stepsWithLies_15 rfl ?_
  refine V_get (k0 := 8) (Cn := RX2) (T := TX2) (N := 18) C (hs_mem0 h_b) rfl iw_X2_stepsWithLies_X2 (by decide) rfl m_X2_stepsWithLies_f43 ((ceX_H h_b) _) rfl dX2_stepsWithLies_16 ?_
  refine V_iload_n C 2 dX2_stepsWithLies_19 rfl ?_
  have g5 := h.1
  have h := h.2
  refine V_iald (t0 := 1) (L := 5) C (hs_mem h_b (by decide)) (hs_11 h_b) rfl g5 dX2_stepsWithLies_20 ?_
  refine V_iload C 5 dX2_stepsWithLies_21 rfl ?_
  refine V_yards_X2_stepsWithLies (rest := []) C r2 (M.1 (b + 9) x2.toNatClampNeg) (M3.1 (b + 11) x1.toNatClampNeg) x4 h (Nat.le_of_ble_eq_true rfl) dX2_stepsWithLies_23 (fun r6 M7 h => ?_)
  refine V_istore (lv' := [(6, .int r6), (5, .int (M.1 (b + 9) x2.toNatClampNeg)), (0, .ref (ad b)), (1, .int x1), (2, .int x2), (3, .int x3), (4, .int x4)]) C dX2_stepsWithLies_26 (by decide) rfl ?_
  refine V_iload_n C 5 dX2_stepsWithLies_28 rfl ?_
  refine V_iconst (v := (-1 : Int32)) C dX2_stepsWithLies_29 (by decide) ?_
  refine V_icmp_ne C 36 dX2_stepsWithLies_30 (by decide) (fun q9 => ?_) (fun q9 => ?_)
  · have h := h.1 q9
    refine V_iload C 0 dX2_stepsWithLies_36 rfl ?_
    refine V_aload_n C 2 dX2_stepsWithLies_38 rfl ?_
    refine V_iload_n C 5 dX2_stepsWithLies_39 rfl ?_
    refine V_callVr (q := (RX2, TX2, 18)) (rest := [.int r6]) C (hs_mem0 h_b) ((ceX_H h_b) _) rfl (c_X2_clerk l D cy ad A G b h_b x3 M7 _ h) (cwV 1 C.1.2.2.2.2 gX2_stepsWithLies_X2_clerk rfl rfl rfl (by decide +kernel) ⟨by decide, by decide⟩) rfl rfl (Nat.le_of_ble_eq_true rfl) dX2_stepsWithLies_40 (fun r10 M11 h => ?_)
    refine V_iload C 1 dX2_stepsWithLies_43 rfl ?_
    refine V_aload_n C 2 dX2_stepsWithLies_45 rfl ?_
    refine V_get (k0 := 8) (Cn := RX2) (T := TX2) (N := 18) C (hs_mem0 h_b) rfl iw_X2_stepsWithLies_X2 (by decide) rfl m_X2_stepsWithLies_f43 ((ceX_H h_b) _) rfl dX2_stepsWithLies_46 ?_
    refine V_iload_n C 5 dX2_stepsWithLies_49 rfl ?_
    have g13 := h.1
    have h := h.2
    refine V_iald (t0 := 1) (L := 5) C (hs_mem h_b (by decide)) (hs_11 h_b) rfl g13 dX2_stepsWithLies_50 ?_
    refine V_aload_n C 2 dX2_stepsWithLies_51 rfl ?_
    refine V_get (k0 := 9) (Cn := RX2) (T := TX2) (N := 18) C (hs_mem0 h_b) rfl iw_X2_stepsWithLies_X2 (by decide) rfl m_X2_stepsWithLies_f46 ((ceX_H h_b) _) rfl dX2_stepsWithLies_52 ?_
    refine V_iload_n C 5 dX2_stepsWithLies_55 rfl ?_
    refine V_iald (t0 := 1) (L := 5) C (hs_mem h_b (by decide)) (hs_12 h_b) rfl g13 dX2_stepsWithLies_56 ?_
    refine V_yards_X2_stepsWithLies (rest := [.int r6]) C r10 (M.1 (b + 9) x2.toNatClampNeg) (M11.1 (b + 11) x3.toNatClampNeg) (M11.1 (b + 12) x3.toNatClampNeg) h (Nat.le_of_ble_eq_true rfl) dX2_stepsWithLies_57 (fun r14 M15 h => ?_)
    refine V_iadd C dX2_stepsWithLies_60 ?_
    refine V_iconst (v := (1 : Int32)) C dX2_stepsWithLies_61 (by decide) ?_
    refine V_iadd C dX2_stepsWithLies_62 ?_
    refine V_iconst (v := (2 : Int32)) C dX2_stepsWithLies_63 (by decide) ?_
    refine V_idiv C dX2_stepsWithLies_64 (by decide) ?_
    exact V_iret C hr hlk dX2_stepsWithLies_65 h
  · have h := h.2 q9
    refine V_iload C 0 dX2_stepsWithLies_33 rfl ?_
    exact V_iret C hr hlk dX2_stepsWithLies_35 h
def w_X2_stepsOf (b : Nat) (x1 : Int32) (x2 : Int32) (x3 : Int32) (M : Mm) (post : Int32 → Mm → Prop) : Prop :=
  (vp_in x1 5) ∧ (w_X2_stepsWithLies b x1 x2 x3 (M.1 (b + 12) x1.toNatClampNeg) M (fun r2 M3 => post r2 M3))
theorem iw_X2_stepsOf_X2 : ∀ w ∈ u_ws RX2 TX2 18, w ∈ wsX2_stepsOf := by decide +kernel
theorem m_X2_stepsOf_f46 : Cond.fieldLink RX2 46 "ShameYards$House" "lies" "[I" ∈ wsX2_stepsOf := by decide +kernel
set_option maxHeartbeats 4000000 in
set_option maxRecDepth 100000 in
theorem c_X2_stepsOf (l : Launch) (D : va_G) (cy : Nat → ClassId) (ad : Nat → Nat) (A : Nat → Prop) (G : Gd A ad nsX) (b : Nat) (h_b : isH b) (x1 : Int32) (x2 : Int32) (x3 : Int32) (M : Mm) (post : Int32 → Mm → Prop) (h : w_X2_stepsOf b x1 x2 x3 M post) : CI l yX2_stepsOf wsX2_stepsOf (rmL 5) D (tysC cy) A ad nsX (ceX ad cy) [.ref (ad b), .int x1, .int x2, .int x3] M post := by
  refine Met_V (cc := cX2_stepsOf) (maxL := 4) (ret := (some .int)) (by decide) rfl G Lo_X (Nat.le_of_ble_eq_true rfl) rfl ?_
  intro p e s m args below meth c C hr hlk
  have C : Cx p s m args c cX2_stepsOf 4 RX2 wsX2_stepsOf D (tysC cy) A ad nsX (ceX ad cy) := C
  unfold w_X2_stepsOf at h
  refine V_aload_n C 0 dX2_stepsOf_0 rfl ?_
  refine V_iload_n C 1 dX2_stepsOf_1 rfl ?_
  refine V_iload_n C 2 dX2_stepsOf_2 rfl ?_
  refine V_iload_n C 3 dX2_stepsOf_3 rfl ?_
  refine V_aload_n C 0 dX2_stepsOf_4 rfl ?_
  refine V_get (k0 := 9) (Cn := RX2) (T := TX2) (N := 18) C (hs_mem0 h_b) rfl iw_X2_stepsOf_X2 (by decide) rfl m_X2_stepsOf_f46 ((ceX_H h_b) _) rfl dX2_stepsOf_5 ?_
  refine V_iload_n C 1 dX2_stepsOf_8 rfl ?_
  have g1 := h.1
  have h := h.2
  refine V_iald (t0 := 1) (L := 5) C (hs_mem h_b (by decide)) (hs_12 h_b) rfl g1 dX2_stepsOf_9 ?_
  refine V_callVi (q := (RX2, TX2, 18)) (rest := []) C (hs_mem0 h_b) ((ceX_H h_b) _) rfl (c_X2_stepsWithLies l D cy ad A G b h_b x1 x2 x3 (M.1 (b + 12) x1.toNatClampNeg) M _ h) (cwV 4 C.1.2.2.2.2 gX2_stepsOf_X2_stepsWithLies rfl rfl rfl (by decide +kernel) ⟨by decide, by decide⟩) rfl rfl (Nat.le_of_ble_eq_true rfl) dX2_stepsOf_10 (fun r2 M3 h => ?_)
  exact V_iret C hr hlk dX2_stepsOf_13 h
def w_X2_walk (b : Nat) (x1 : Int32) (x2 : Int32) (x3 : Int32) (M : Mm) (post : Int32 → Mm → Prop) : Prop :=
  w_X2_stepsOf b x1 x2 x3 M (fun r1 M2 => (vp_in x1 5) ∧ (w_X2_across b x2 (M2.1 (b + 13) x1.toNatClampNeg) M2 (fun r5 M6 => ∀ M8 : Mm, M8 = wI M6 (b + 13) (upd (M6.1 (b + 13)) x1.toNatClampNeg r5) → (∀ M10 : Mm, M10 = wI M8 (b + 14) (upd (M8.1 (b + 14)) x1.toNatClampNeg ((M8.1 (b + 14) x1.toNatClampNeg) + r1)) → (((x3 = (-1 : Int32)) → (post r1 M10)) ∧ ((¬ x3 = (-1 : Int32)) → ((vp_in x3 5) ∧ (∀ M14 : Mm, M14 = wI M10 (b + 13) (upd (M10.1 (b + 13)) x3.toNatClampNeg r5) → (∀ M16 : Mm, M16 = wI M14 (b + 14) (upd (M14.1 (b + 14)) x3.toNatClampNeg ((M14.1 (b + 14) x3.toNatClampNeg) + r1)) → (∀ M18 : Mm, M18 = wI M16 b (upd (M16.1 b) 12 ((M16.1 b 12) + (1 : Int32))) → (post r1 M18)))))))))))
theorem iw_X2_walk_X2 : ∀ w ∈ u_ws RX2 TX2 18, w ∈ wsX2_walk := by decide +kernel
theorem m_X2_walk_f49 : Cond.fieldLink RX2 49 "ShameYards$House" "places" "[I" ∈ wsX2_walk := by decide +kernel
theorem m_X2_walk_f52 : Cond.fieldLink RX2 52 "ShameYards$House" "taken" "[I" ∈ wsX2_walk := by decide +kernel
theorem m_X2_walk_f99 : Cond.fieldLink RX2 99 "ShameYards$House" "walksTogether" "I" ∈ wsX2_walk := by decide +kernel
set_option maxHeartbeats 4000000 in
set_option maxRecDepth 100000 in
theorem c_X2_walk (l : Launch) (D : va_G) (cy : Nat → ClassId) (ad : Nat → Nat) (A : Nat → Prop) (G : Gd A ad nsX) (b : Nat) (h_b : isH b) (x1 : Int32) (x2 : Int32) (x3 : Int32) (M : Mm) (post : Int32 → Mm → Prop) (h : w_X2_walk b x1 x2 x3 M post) : CI l yX2_walk wsX2_walk (rmL 6) D (tysC cy) A ad nsX (ceX ad cy) [.ref (ad b), .int x1, .int x2, .int x3] M post := by
  refine Met_V (cc := cX2_walk) (maxL := 6) (ret := (some .int)) (by decide) rfl G Lo_X (Nat.le_of_ble_eq_true rfl) rfl ?_
  intro p e s m args below meth c C hr hlk
  have C : Cx p s m args c cX2_walk 6 RX2 wsX2_walk D (tysC cy) A ad nsX (ceX ad cy) := C
  unfold w_X2_walk at h
  refine V_aload_n C 0 dX2_walk_0 rfl ?_
  refine V_iload_n C 1 dX2_walk_1 rfl ?_
  refine V_iload_n C 2 dX2_walk_2 rfl ?_
  refine V_iload_n C 3 dX2_walk_3 rfl ?_
  refine V_callVi (q := (RX2, TX2, 18)) (rest := []) C (hs_mem0 h_b) ((ceX_H h_b) _) rfl (c_X2_stepsOf l D cy ad A G b h_b x1 x2 x3 M _ h) (cwV 3 C.1.2.2.2.2 gX2_walk_X2_stepsOf rfl rfl rfl (by decide +kernel) ⟨by decide, by decide⟩) rfl rfl (Nat.le_of_ble_eq_true rfl) dX2_walk_4 (fun r1 M2 h => ?_)
  refine V_istore (lv' := [(4, .int r1), (0, .ref (ad b)), (1, .int x1), (2, .int x2), (3, .int x3)]) C dX2_walk_7 (by decide) rfl ?_
  refine V_aload_n C 1 dX2_walk_9 rfl ?_
  refine V_iload_n C 3 dX2_walk_10 rfl ?_
  refine V_aload_n C 1 dX2_walk_11 rfl ?_
  refine V_get (k0 := 10) (Cn := RX2) (T := TX2) (N := 18) C (hs_mem0 h_b) rfl iw_X2_walk_X2 (by decide) rfl m_X2_walk_f49 ((ceX_H h_b) _) rfl dX2_walk_12 ?_
  refine V_iload_n C 2 dX2_walk_15 rfl ?_
  have g4 := h.1
  have h := h.2
  refine V_iald (t0 := 1) (L := 5) C (hs_mem h_b (by decide)) (hs_13 h_b) rfl g4 dX2_walk_16 ?_
  refine V_callVi (q := (RX2, TX2, 18)) (rest := []) C (hs_mem0 h_b) ((ceX_H h_b) _) rfl (c_X2_across l D cy ad A G b h_b x2 (M2.1 (b + 13) x1.toNatClampNeg) M2 _ h) (cwV 2 C.1.2.2.2.2 gX2_walk_X2_across rfl rfl rfl (by decide +kernel) ⟨by decide, by decide⟩) rfl rfl (Nat.le_of_ble_eq_true rfl) dX2_walk_17 (fun r5 M6 h => ?_)
  refine V_istore (lv' := [(5, .int r5), (4, .int r1), (0, .ref (ad b)), (1, .int x1), (2, .int x2), (3, .int x3)]) C dX2_walk_20 (by decide) rfl ?_
  refine V_aload_n C 2 dX2_walk_22 rfl ?_
  refine V_get (k0 := 10) (Cn := RX2) (T := TX2) (N := 18) C (hs_mem0 h_b) rfl iw_X2_walk_X2 (by decide) rfl m_X2_walk_f49 ((ceX_H h_b) _) rfl dX2_walk_23 ?_
  refine V_iload_n C 3 dX2_walk_26 rfl ?_
  refine V_iload C 0 dX2_walk_27 rfl ?_
  refine V_iast (t0 := 1) (L := 5) C (hs_mem h_b (by decide)) (hs_13 h_b) rfl g4 dX2_walk_29 (fun M8 e9 => ?_)
  have h := h M8 e9
  refine V_aload_n C 2 dX2_walk_30 rfl ?_
  refine V_get (k0 := 11) (Cn := RX2) (T := TX2) (N := 18) C (hs_mem0 h_b) rfl iw_X2_walk_X2 (by decide) rfl m_X2_walk_f52 ((ceX_H h_b) _) rfl dX2_walk_31 ?_
  refine V_iload_n C 3 dX2_walk_34 rfl ?_
  refine V_dup2 C dX2_walk_35 rfl rfl ?_
  refine V_iald (t0 := 1) (L := 5) C (hs_mem h_b (by decide)) (hs_14 h_b) rfl g4 dX2_walk_36 ?_
  refine V_iload C 1 dX2_walk_37 rfl ?_
  refine V_iadd C dX2_walk_39 ?_
  refine V_iast (t0 := 1) (L := 5) C (hs_mem h_b (by decide)) (hs_14 h_b) rfl g4 dX2_walk_40 (fun M10 e11 => ?_)
  have h := h M10 e11
  refine V_iload_n C 5 dX2_walk_41 rfl ?_
  refine V_iconst (v := (-1 : Int32)) C dX2_walk_42 (by decide) ?_
  refine V_icmp_eq C 75 dX2_walk_43 (by decide) (fun q12 => ?_) (fun q12 => ?_)
  · have h := h.1 q12
    refine V_iload C 1 dX2_walk_75 rfl ?_
    exact V_iret C hr hlk dX2_walk_77 h
  · have h := h.2 q12
    refine V_aload_n C 2 dX2_walk_46 rfl ?_
    refine V_get (k0 := 10) (Cn := RX2) (T := TX2) (N := 18) C (hs_mem0 h_b) rfl iw_X2_walk_X2 (by decide) rfl m_X2_walk_f49 ((ceX_H h_b) _) rfl dX2_walk_47 ?_
    refine V_iload_n C 5 dX2_walk_50 rfl ?_
    refine V_iload C 0 dX2_walk_51 rfl ?_
    have g13 := h.1
    have h := h.2
    refine V_iast (t0 := 1) (L := 5) C (hs_mem h_b (by decide)) (hs_13 h_b) rfl g13 dX2_walk_53 (fun M14 e15 => ?_)
    have h := h M14 e15
    refine V_aload_n C 2 dX2_walk_54 rfl ?_
    refine V_get (k0 := 11) (Cn := RX2) (T := TX2) (N := 18) C (hs_mem0 h_b) rfl iw_X2_walk_X2 (by decide) rfl m_X2_walk_f52 ((ceX_H h_b) _) rfl dX2_walk_55 ?_
    refine V_iload_n C 5 dX2_walk_58 rfl ?_
    refine V_dup2 C dX2_walk_59 rfl rfl ?_
    refine V_iald (t0 := 1) (L := 5) C (hs_mem h_b (by decide)) (hs_14 h_b) rfl g13 dX2_walk_60 ?_
    refine V_iload C 1 dX2_walk_61 rfl ?_
    refine V_iadd C dX2_walk_63 ?_
    refine V_iast (t0 := 1) (L := 5) C (hs_mem h_b (by decide)) (hs_14 h_b) rfl g13 dX2_walk_64 (fun M16 e17 => ?_)
    have h := h M16 e17
    refine V_aload_n C 2 dX2_walk_65 rfl ?_
    refine V_dup C dX2_walk_66 rfl ?_
    refine V_get (k0 := 12) (Cn := RX2) (T := TX2) (N := 18) C (hs_mem0 h_b) rfl iw_X2_walk_X2 (by decide) rfl m_X2_walk_f99 ((ceX_H h_b) _) rfl dX2_walk_67 ?_
    refine V_iconst (v := (1 : Int32)) C dX2_walk_70 (by decide) ?_
    refine V_iadd C dX2_walk_71 ?_
    refine V_putI (k0 := 12) (Cn := RX2) (T := TX2) (N := 18) C (hs_mem0 h_b) rfl iw_X2_walk_X2 (by decide) rfl m_X2_walk_f99 tyX2_ok nmX2 rfl (show _ = some FieldType.int by decide +kernel) rfl rfl (Nat.le_of_ble_eq_true rfl) ((ceX_H h_b) _) (stXH_12 h_b _ _) dX2_walk_72 (fun M18 e19 => ?_)
    have h := h M18 e19
    refine V_iload C 1 dX2_walk_75 rfl ?_
    exact V_iret C hr hlk dX2_walk_77 h
def w_X2_note (b : Nat) (x1 : Int32) (x2 : Int32) (x3 : Int32) (x4 : Int32) (M : Mm) (post : Mm → Prop) : Prop :=
  (((6 : Int32) ≤ (M.1 b 13)) → (post M)) ∧ ((¬ (6 : Int32) ≤ (M.1 b 13)) → ((vp_in (M.1 b 13) 6) ∧ (∀ M3 : Mm, M3 = wI M (b + 15) (upd (M.1 (b + 15)) (M.1 b 13).toNatClampNeg x1) → ((vp_in (M3.1 b 13) 6) ∧ (∀ M6 : Mm, M6 = wI M3 (b + 16) (upd (M3.1 (b + 16)) (M3.1 b 13).toNatClampNeg x2) → ((vp_in (M6.1 b 13) 6) ∧ (∀ M9 : Mm, M9 = wI M6 (b + 17) (upd (M6.1 (b + 17)) (M6.1 b 13).toNatClampNeg x3) → ((vp_in (M9.1 b 13) 6) ∧ (∀ M12 : Mm, M12 = wI M9 (b + 18) (upd (M9.1 (b + 18)) (M9.1 b 13).toNatClampNeg x4) → (∀ M14 : Mm, M14 = wI M12 b (upd (M12.1 b) 13 ((M12.1 b 13) + (1 : Int32))) → (post M14)))))))))))
theorem iw_X2_note_X2 : ∀ w ∈ u_ws RX2 TX2 18, w ∈ wsX2_note := by decide +kernel
theorem m_X2_note_f102 : Cond.fieldLink RX2 102 "ShameYards$House" "seenCount" "I" ∈ wsX2_note := by decide +kernel
theorem m_X2_note_f55 : Cond.fieldLink RX2 55 "ShameYards$House" "seenPerson" "[I" ∈ wsX2_note := by decide +kernel
theorem m_X2_note_f58 : Cond.fieldLink RX2 58 "ShameYards$House" "seenPassage" "[I" ∈ wsX2_note := by decide +kernel
theorem m_X2_note_f61 : Cond.fieldLink RX2 61 "ShameYards$House" "seenWith" "[I" ∈ wsX2_note := by decide +kernel
theorem m_X2_note_f64 : Cond.fieldLink RX2 64 "ShameYards$House" "seenSteps" "[I" ∈ wsX2_note := by decide +kernel
set_option maxHeartbeats 4000000 in
set_option maxRecDepth 100000 in
theorem c_X2_note (l : Launch) (D : va_G) (cy : Nat → ClassId) (ad : Nat → Nat) (A : Nat → Prop) (G : Gd A ad nsX) (b : Nat) (h_b : isH b) (x1 : Int32) (x2 : Int32) (x3 : Int32) (x4 : Int32) (M : Mm) (post : Mm → Prop) (h : w_X2_note b x1 x2 x3 x4 M post) : CV l yX2_note wsX2_note (rmL 2) D (tysC cy) A ad nsX (ceX ad cy) [.ref (ad b), .int x1, .int x2, .int x3, .int x4] M post := by
  refine Met_V (cc := cX2_note) (maxL := 5) (ret := none) (by decide) rfl G Lo_X (Nat.le_of_ble_eq_true rfl) rfl ?_
  intro p e s m args below meth c C hr hlk
  have C : Cx p s m args c cX2_note 5 RX2 wsX2_note D (tysC cy) A ad nsX (ceX ad cy) := C
  unfold w_X2_note at h
  refine V_aload_n C 0 dX2_note_0 rfl ?_
  refine V_get (k0 := 13) (Cn := RX2) (T := TX2) (N := 18) C (hs_mem0 h_b) rfl iw_X2_note_X2 (by decide) rfl m_X2_note_f102 ((ceX_H h_b) _) rfl dX2_note_1 ?_
  refine V_bipush (v := (6 : Int32)) C dX2_note_4 (by decide) ?_
  refine V_icmp_ge C 60 dX2_note_6 (by decide) (fun q1 => ?_) (fun q1 => ?_)
  · have h := h.1 q1
    exact V_vret C hr hlk dX2_note_60 h
  · have h := h.2 q1
    refine V_aload_n C 0 dX2_note_9 rfl ?_
    refine V_get (k0 := 14) (Cn := RX2) (T := TX2) (N := 18) C (hs_mem0 h_b) rfl iw_X2_note_X2 (by decide) rfl m_X2_note_f55 ((ceX_H h_b) _) rfl dX2_note_10 ?_
    refine V_aload_n C 0 dX2_note_13 rfl ?_
    refine V_get (k0 := 13) (Cn := RX2) (T := TX2) (N := 18) C (hs_mem0 h_b) rfl iw_X2_note_X2 (by decide) rfl m_X2_note_f102 ((ceX_H h_b) _) rfl dX2_note_14 ?_
    refine V_iload_n C 1 dX2_note_17 rfl ?_
    have g2 := h.1
    have h := h.2
    refine V_iast (t0 := 1) (L := 6) C (hs_mem h_b (by decide)) (hs_15 h_b) rfl g2 dX2_note_18 (fun M3 e4 => ?_)
    have h := h M3 e4
    refine V_aload_n C 0 dX2_note_19 rfl ?_
    refine V_get (k0 := 15) (Cn := RX2) (T := TX2) (N := 18) C (hs_mem0 h_b) rfl iw_X2_note_X2 (by decide) rfl m_X2_note_f58 ((ceX_H h_b) _) rfl dX2_note_20 ?_
    refine V_aload_n C 0 dX2_note_23 rfl ?_
    refine V_get (k0 := 13) (Cn := RX2) (T := TX2) (N := 18) C (hs_mem0 h_b) rfl iw_X2_note_X2 (by decide) rfl m_X2_note_f102 ((ceX_H h_b) _) rfl dX2_note_24 ?_
    refine V_iload_n C 2 dX2_note_27 rfl ?_
    have g5 := h.1
    have h := h.2
    refine V_iast (t0 := 1) (L := 6) C (hs_mem h_b (by decide)) (hs_16 h_b) rfl g5 dX2_note_28 (fun M6 e7 => ?_)
    have h := h M6 e7
    refine V_aload_n C 0 dX2_note_29 rfl ?_
    refine V_get (k0 := 16) (Cn := RX2) (T := TX2) (N := 18) C (hs_mem0 h_b) rfl iw_X2_note_X2 (by decide) rfl m_X2_note_f61 ((ceX_H h_b) _) rfl dX2_note_30 ?_
    refine V_aload_n C 0 dX2_note_33 rfl ?_
    refine V_get (k0 := 13) (Cn := RX2) (T := TX2) (N := 18) C (hs_mem0 h_b) rfl iw_X2_note_X2 (by decide) rfl m_X2_note_f102 ((ceX_H h_b) _) rfl dX2_note_34 ?_
    refine V_iload_n C 3 dX2_note_37 rfl ?_
    have g8 := h.1
    have h := h.2
    refine V_iast (t0 := 1) (L := 6) C (hs_mem h_b (by decide)) (hs_17 h_b) rfl g8 dX2_note_38 (fun M9 e10 => ?_)
    have h := h M9 e10
    refine V_aload_n C 0 dX2_note_39 rfl ?_
    refine V_get (k0 := 17) (Cn := RX2) (T := TX2) (N := 18) C (hs_mem0 h_b) rfl iw_X2_note_X2 (by decide) rfl m_X2_note_f64 ((ceX_H h_b) _) rfl dX2_note_40 ?_
    refine V_aload_n C 0 dX2_note_43 rfl ?_
    refine V_get (k0 := 13) (Cn := RX2) (T := TX2) (N := 18) C (hs_mem0 h_b) rfl iw_X2_note_X2 (by decide) rfl m_X2_note_f102 ((ceX_H h_b) _) rfl dX2_note_44 ?_
    refine V_iload C 4 dX2_note_47 rfl ?_
    have g11 := h.1
    have h := h.2
    refine V_iast (t0 := 1) (L := 6) C (hs_mem h_b (by decide)) (hs_18 h_b) rfl g11 dX2_note_49 (fun M12 e13 => ?_)
    have h := h M12 e13
    refine V_aload_n C 0 dX2_note_50 rfl ?_
    refine V_dup C dX2_note_51 rfl ?_
    refine V_get (k0 := 13) (Cn := RX2) (T := TX2) (N := 18) C (hs_mem0 h_b) rfl iw_X2_note_X2 (by decide) rfl m_X2_note_f102 ((ceX_H h_b) _) rfl dX2_note_52 ?_
    refine V_iconst (v := (1 : Int32)) C dX2_note_55 (by decide) ?_
    refine V_iadd C dX2_note_56 ?_
    refine V_putI (k0 := 13) (Cn := RX2) (T := TX2) (N := 18) C (hs_mem0 h_b) rfl iw_X2_note_X2 (by decide) rfl m_X2_note_f102 tyX2_ok nmX2 rfl (show _ = some FieldType.int by decide +kernel) rfl rfl (Nat.le_of_ble_eq_true rfl) ((ceX_H h_b) _) (stXH_13 h_b _ _) dX2_note_57 (fun M14 e15 => ?_)
    have h := h M14 e15
    exact V_vret C hr hlk dX2_note_60 h
def w_X2_sumOfPeople_4 (b : Nat) (rw : Nat) (post : Int32 → Mm → Prop)  : Nat → Int32 → Int32 → Mm → Prop
  | 0 => fun _ _ _ => False
  | n + 1 => fun v2 v3 M =>
    (((M.1 b 3) ≤ v3) → (post v2 M)) ∧ ((¬ (M.1 b 3) ≤ v3) → ((vp_in v3 5) ∧ (w_X2_sumOfPeople_4 b rw post  n (v2 + (M.1 rw v3.toNatClampNeg)) (v3 + 1) M)))
def w_X2_sumOfPeople (b : Nat) (rw : Nat)  (M : Mm) (post : Int32 → Mm → Prop) : Prop :=
  ∃ n0 : Nat, w_X2_sumOfPeople_4 b rw post  n0 (0 : Int32) (0 : Int32) M
theorem iw_X2_sumOfPeople_X2 : ∀ w ∈ u_ws RX2 TX2 18, w ∈ wsX2_sumOfPeople := by decide +kernel
theorem m_X2_sumOfPeople_f93 : Cond.fieldLink RX2 93 "ShameYards$House" "peopleCount" "I" ∈ wsX2_sumOfPeople := by decide +kernel
set_option maxHeartbeats 4000000 in
set_option maxRecDepth 100000 in
theorem c_X2_sumOfPeople (l : Launch) (D : va_G) (cy : Nat → ClassId) (ad : Nat → Nat) (A : Nat → Prop) (G : Gd A ad nsX) (b : Nat) (rw : Nat) (h_b : isH b) (m_rw : rw ∈ nsX) (c_rw : ∀ M0 : Mm, ceX ad cy M0 rw = .inl (cy 1, 5, .inl (M0.1 rw)))  (M : Mm) (post : Int32 → Mm → Prop) (h : w_X2_sumOfPeople b rw M post) : CI l yX2_sumOfPeople wsX2_sumOfPeople (rmL 2) D (tysC cy) A ad nsX (ceX ad cy) [.ref (ad b), .ref (ad rw)] M post := by
  refine Met_V (cc := cX2_sumOfPeople) (maxL := 4) (ret := (some .int)) (by decide) rfl G Lo_X (Nat.le_of_ble_eq_true rfl) rfl ?_
  intro p e s m args below meth c C hr hlk
  have C : Cx p s m args c cX2_sumOfPeople 4 RX2 wsX2_sumOfPeople D (tysC cy) A ad nsX (ceX ad cy) := C
  have L4 : ∀  (n : Nat) (v2 : Int32) (v3 : Int32) (M : Mm), w_X2_sumOfPeople_4 b rw post  n v2 v3 M → V p l e (rmL 2) s m args below meth c (MQ below (va_Qi post (Wd D (tysC cy) ad nsX (ceX ad cy)) A) args s 0 0 A) D A ad nsX (ceX ad cy) 4 M [(0, .ref (ad b)), (1, .ref (ad rw)), (2, .int v2), (3, .int v3)] 4 [] := by
    intro  n
    induction n with
    | zero => intro v2 v3 M h; exact h.elim
    | succ n ih =>
    intro v2 v3 M h 
    unfold w_X2_sumOfPeople_4 at h
    refine V_iload_n C 3 dX2_sumOfPeople_4 rfl ?_
    refine V_aload_n C 0 dX2_sumOfPeople_5 rfl ?_
    refine V_get (k0 := 3) (Cn := RX2) (T := TX2) (N := 18) C (hs_mem0 h_b) rfl iw_X2_sumOfPeople_X2 (by decide) rfl m_X2_sumOfPeople_f93 ((ceX_H h_b) _) rfl dX2_sumOfPeople_6 ?_
    refine V_icmp_ge C 24 dX2_sumOfPeople_9 (by decide) (fun q1 => ?_) (fun q1 => ?_)
    · have h := h.1 q1
      refine V_iload_n C 2 dX2_sumOfPeople_24 rfl ?_
      exact V_iret C hr hlk dX2_sumOfPeople_25 h
    · have h := h.2 q1
      refine V_iload_n C 2 dX2_sumOfPeople_12 rfl ?_
      refine V_aload_n C 1 dX2_sumOfPeople_13 rfl ?_
      refine V_iload_n C 3 dX2_sumOfPeople_14 rfl ?_
      have g2 := h.1
      have h := h.2
      refine V_iald (t0 := 1) (L := 5) C m_rw c_rw rfl g2 dX2_sumOfPeople_15 ?_
      refine V_iadd C dX2_sumOfPeople_16 ?_
      refine V_istore_n (lv' := [(2, .int (v2 + (M.1 rw v3.toNatClampNeg))), (0, .ref (ad b)), (1, .ref (ad rw)), (3, .int v3)]) C dX2_sumOfPeople_17 rfl (by decide) rfl ?_
      refine V_iinc (v := (v3 + 1)) (lv' := [(3, .int (v3 + 1)), (2, .int (v2 + (M.1 rw v3.toNatClampNeg))), (0, .ref (ad b)), (1, .ref (ad rw))]) C 3 dX2_sumOfPeople_18 rfl rfl (by decide) rfl ?_
      refine V_goto C 4 dX2_sumOfPeople_21 (by decide) ?_
      refine V_drop (lv' := [(0, .ref (ad b)), (1, .ref (ad rw)), (2, .int (v2 + (M.1 rw v3.toNatClampNeg))), (3, .int (v3 + 1))]) [2, 3, 1, 0] rfl ?_
      exact ih (v2 + (M.1 rw v3.toNatClampNeg)) (v3 + 1) M h 
  unfold w_X2_sumOfPeople at h
  refine V_iconst (v := (0 : Int32)) C dX2_sumOfPeople_0 (by decide) ?_
  refine V_istore_n (lv' := [(2, .int (0 : Int32)), (0, .ref (ad b)), (1, .ref (ad rw))]) C dX2_sumOfPeople_1 rfl (by decide) rfl ?_
  refine V_iconst (v := (0 : Int32)) C dX2_sumOfPeople_2 (by decide) ?_
  refine V_istore_n (lv' := [(3, .int (0 : Int32)), (2, .int (0 : Int32)), (0, .ref (ad b)), (1, .ref (ad rw))]) C dX2_sumOfPeople_3 rfl (by decide) rfl ?_
  refine V_drop (lv' := [(0, .ref (ad b)), (1, .ref (ad rw)), (2, .int (0 : Int32)), (3, .int (0 : Int32))]) [2, 3, 1, 0] rfl ?_
  obtain ⟨n0, h⟩ := h
  exact L4  n0 (0 : Int32) (0 : Int32) M h 
def w_X2_peopleInRoomZero_4 (b : Nat) (post : Int32 → Mm → Prop)  : Nat → Int32 → Int32 → Mm → Prop
  | 0 => fun _ _ _ => False
  | n + 1 => fun v1 v2 M =>
    (((M.1 b 3) ≤ v2) → (post v1 M)) ∧ ((¬ (M.1 b 3) ≤ v2) → ((vp_in v2 5) ∧ (((¬ (M.1 (b + 13) v2.toNatClampNeg) = 0) → (w_X2_peopleInRoomZero_4 b post  n v1 (v2 + 1) M)) ∧ (((M.1 (b + 13) v2.toNatClampNeg) = 0) → (w_X2_peopleInRoomZero_4 b post  n (v1 + 1) (v2 + 1) M)))))
def w_X2_peopleInRoomZero (b : Nat)  (M : Mm) (post : Int32 → Mm → Prop) : Prop :=
  ∃ n0 : Nat, w_X2_peopleInRoomZero_4 b post  n0 (0 : Int32) (0 : Int32) M
theorem iw_X2_peopleInRoomZero_X2 : ∀ w ∈ u_ws RX2 TX2 18, w ∈ wsX2_peopleInRoomZero := by decide +kernel
theorem m_X2_peopleInRoomZero_f93 : Cond.fieldLink RX2 93 "ShameYards$House" "peopleCount" "I" ∈ wsX2_peopleInRoomZero := by decide +kernel
theorem m_X2_peopleInRoomZero_f49 : Cond.fieldLink RX2 49 "ShameYards$House" "places" "[I" ∈ wsX2_peopleInRoomZero := by decide +kernel
set_option maxHeartbeats 4000000 in
set_option maxRecDepth 100000 in
theorem c_X2_peopleInRoomZero (l : Launch) (D : va_G) (cy : Nat → ClassId) (ad : Nat → Nat) (A : Nat → Prop) (G : Gd A ad nsX) (b : Nat) (h_b : isH b)  (M : Mm) (post : Int32 → Mm → Prop) (h : w_X2_peopleInRoomZero b M post) : CI l yX2_peopleInRoomZero wsX2_peopleInRoomZero (rmL 2) D (tysC cy) A ad nsX (ceX ad cy) [.ref (ad b)] M post := by
  refine Met_V (cc := cX2_peopleInRoomZero) (maxL := 3) (ret := (some .int)) (by decide) rfl G Lo_X (Nat.le_of_ble_eq_true rfl) rfl ?_
  intro p e s m args below meth c C hr hlk
  have C : Cx p s m args c cX2_peopleInRoomZero 3 RX2 wsX2_peopleInRoomZero D (tysC cy) A ad nsX (ceX ad cy) := C
  have L4 : ∀  (n : Nat) (v1 : Int32) (v2 : Int32) (M : Mm), w_X2_peopleInRoomZero_4 b post  n v1 v2 M → V p l e (rmL 2) s m args below meth c (MQ below (va_Qi post (Wd D (tysC cy) ad nsX (ceX ad cy)) A) args s 0 0 A) D A ad nsX (ceX ad cy) 3 M [(0, .ref (ad b)), (1, .int v1), (2, .int v2)] 4 [] := by
    intro  n
    induction n with
    | zero => intro v1 v2 M h; exact h.elim
    | succ n ih =>
    intro v1 v2 M h 
    unfold w_X2_peopleInRoomZero_4 at h
    refine V_iload_n C 2 dX2_peopleInRoomZero_4 rfl ?_
    refine V_aload_n C 0 dX2_peopleInRoomZero_5 rfl ?_
    refine V_get (k0 := 3) (Cn := RX2) (T := TX2) (N := 18) C (hs_mem0 h_b) rfl iw_X2_peopleInRoomZero_X2 (by decide) rfl m_X2_peopleInRoomZero_f93 ((ceX_H h_b) _) rfl dX2_peopleInRoomZero_6 ?_
    refine V_icmp_ge C 30 dX2_peopleInRoomZero_9 (by decide) (fun q1 => ?_) (fun q1 => ?_)
    · have h := h.1 q1
      refine V_iload_n C 1 dX2_peopleInRoomZero_30 rfl ?_
      exact V_iret C hr hlk dX2_peopleInRoomZero_31 h
    · have h := h.2 q1
      refine V_aload_n C 0 dX2_peopleInRoomZero_12 rfl ?_
      refine V_get (k0 := 10) (Cn := RX2) (T := TX2) (N := 18) C (hs_mem0 h_b) rfl iw_X2_peopleInRoomZero_X2 (by decide) rfl m_X2_peopleInRoomZero_f49 ((ceX_H h_b) _) rfl dX2_peopleInRoomZero_13 ?_
      refine V_iload_n C 2 dX2_peopleInRoomZero_16 rfl ?_
      have g2 := h.1
      have h := h.2
      refine V_iald (t0 := 1) (L := 5) C (hs_mem h_b (by decide)) (hs_13 h_b) rfl g2 dX2_peopleInRoomZero_17 ?_
      refine V_if_ne C 24 dX2_peopleInRoomZero_18 (by decide) (fun q3 => ?_) (fun q3 => ?_)
      · have h := h.1 q3
        refine V_iinc (v := (v2 + 1)) (lv' := [(2, .int (v2 + 1)), (0, .ref (ad b)), (1, .int v1)]) C 2 dX2_peopleInRoomZero_24 rfl rfl (by decide) rfl ?_
        refine V_goto C 4 dX2_peopleInRoomZero_27 (by decide) ?_
        refine V_drop (lv' := [(0, .ref (ad b)), (1, .int v1), (2, .int (v2 + 1))]) [1, 2, 0] rfl ?_
        exact ih v1 (v2 + 1) M h 
      · have h := h.2 q3
        refine V_iinc (v := (v1 + 1)) (lv' := [(1, .int (v1 + 1)), (0, .ref (ad b)), (2, .int v2)]) C 1 dX2_peopleInRoomZero_21 rfl rfl (by decide) rfl ?_
        refine V_iinc (v := (v2 + 1)) (lv' := [(2, .int (v2 + 1)), (1, .int (v1 + 1)), (0, .ref (ad b))]) C 2 dX2_peopleInRoomZero_24 rfl rfl (by decide) rfl ?_
        refine V_goto C 4 dX2_peopleInRoomZero_27 (by decide) ?_
        refine V_drop (lv' := [(0, .ref (ad b)), (1, .int (v1 + 1)), (2, .int (v2 + 1))]) [2, 1, 0] rfl ?_
        exact ih (v1 + 1) (v2 + 1) M h 
  unfold w_X2_peopleInRoomZero at h
  refine V_iconst (v := (0 : Int32)) C dX2_peopleInRoomZero_0 (by decide) ?_
  refine V_istore_n (lv' := [(1, .int (0 : Int32)), (0, .ref (ad b))]) C dX2_peopleInRoomZero_1 rfl (by decide) rfl ?_
  refine V_iconst (v := (0 : Int32)) C dX2_peopleInRoomZero_2 (by decide) ?_
  refine V_istore_n (lv' := [(2, .int (0 : Int32)), (1, .int (0 : Int32)), (0, .ref (ad b))]) C dX2_peopleInRoomZero_3 rfl (by decide) rfl ?_
  refine V_drop (lv' := [(0, .ref (ad b)), (1, .int (0 : Int32)), (2, .int (0 : Int32))]) [2, 1, 0] rfl ?_
  obtain ⟨n0, h⟩ := h
  exact L4  n0 (0 : Int32) (0 : Int32) M h 
def w_X2_copyFrom (b : Nat) (b2 : Nat)  (M : Mm) (post : Mm → Prop) : Prop :=
  ∀ M1 : Mm, M1 = wI M b (upd (M.1 b) 1 (M.1 b2 1)) → (∀ M3 : Mm, M3 = wI M1 b (upd (M1.1 b) 2 (M1.1 b2 2)) → (∀ M5 : Mm, M5 = wI M3 b (upd (M3.1 b) 3 (M3.1 b2 3)) → (∀ M7 : Mm, M7 = wI M5 b (upd (M5.1 b) 12 (M5.1 b2 12)) → (∀ M9 : Mm, M9 = wI M7 b (upd (M7.1 b) 13 (M7.1 b2 13)) → (∀ M11 : Mm, M11 = wI M9 (b + 7) (va_cpy (M9.1 (b2 + 7)) (M9.1 (b + 7)) (0 : Int32).toNatClampNeg (0 : Int32).toNatClampNeg (7 : Int32).toNatClampNeg) → (∀ M13 : Mm, M13 = wI M11 (b + 8) (va_cpy (M11.1 (b2 + 8)) (M11.1 (b + 8)) (0 : Int32).toNatClampNeg (0 : Int32).toNatClampNeg (7 : Int32).toNatClampNeg) → (∀ M15 : Mm, M15 = wI M13 (b + 9) (va_cpy (M13.1 (b2 + 9)) (M13.1 (b + 9)) (0 : Int32).toNatClampNeg (0 : Int32).toNatClampNeg (7 : Int32).toNatClampNeg) → (∀ M17 : Mm, M17 = wI M15 (b + 10) (va_cpy (M15.1 (b2 + 10)) (M15.1 (b + 10)) (0 : Int32).toNatClampNeg (0 : Int32).toNatClampNeg (5 : Int32).toNatClampNeg) → (∀ M19 : Mm, M19 = wI M17 (b + 11) (va_cpy (M17.1 (b2 + 11)) (M17.1 (b + 11)) (0 : Int32).toNatClampNeg (0 : Int32).toNatClampNeg (5 : Int32).toNatClampNeg) → (∀ M21 : Mm, M21 = wI M19 (b + 12) (va_cpy (M19.1 (b2 + 12)) (M19.1 (b + 12)) (0 : Int32).toNatClampNeg (0 : Int32).toNatClampNeg (5 : Int32).toNatClampNeg) → (∀ M23 : Mm, M23 = wI M21 (b + 13) (va_cpy (M21.1 (b2 + 13)) (M21.1 (b + 13)) (0 : Int32).toNatClampNeg (0 : Int32).toNatClampNeg (5 : Int32).toNatClampNeg) → (∀ M25 : Mm, M25 = wI M23 (b + 14) (va_cpy (M23.1 (b2 + 14)) (M23.1 (b + 14)) (0 : Int32).toNatClampNeg (0 : Int32).toNatClampNeg (5 : Int32).toNatClampNeg) → (∀ M27 : Mm, M27 = wI M25 (b + 15) (va_cpy (M25.1 (b2 + 15)) (M25.1 (b + 15)) (0 : Int32).toNatClampNeg (0 : Int32).toNatClampNeg (6 : Int32).toNatClampNeg) → (∀ M29 : Mm, M29 = wI M27 (b + 16) (va_cpy (M27.1 (b2 + 16)) (M27.1 (b + 16)) (0 : Int32).toNatClampNeg (0 : Int32).toNatClampNeg (6 : Int32).toNatClampNeg) → (∀ M31 : Mm, M31 = wI M29 (b + 17) (va_cpy (M29.1 (b2 + 17)) (M29.1 (b + 17)) (0 : Int32).toNatClampNeg (0 : Int32).toNatClampNeg (6 : Int32).toNatClampNeg) → (∀ M33 : Mm, M33 = wI M31 (b + 18) (va_cpy (M31.1 (b2 + 18)) (M31.1 (b + 18)) (0 : Int32).toNatClampNeg (0 : Int32).toNatClampNeg (6 : Int32).toNatClampNeg) → (post M33)))))))))))))))))
theorem iw_X2_copyFrom_X2 : ∀ w ∈ u_ws RX2 TX2 18, w ∈ wsX2_copyFrom := by decide +kernel
theorem m_X2_copyFrom_f77 : Cond.fieldLink RX2 77 "ShameYards$House" "roomCount" "I" ∈ wsX2_copyFrom := by decide +kernel
theorem m_X2_copyFrom_f87 : Cond.fieldLink RX2 87 "ShameYards$House" "passageCount" "I" ∈ wsX2_copyFrom := by decide +kernel
theorem m_X2_copyFrom_f93 : Cond.fieldLink RX2 93 "ShameYards$House" "peopleCount" "I" ∈ wsX2_copyFrom := by decide +kernel
theorem m_X2_copyFrom_f99 : Cond.fieldLink RX2 99 "ShameYards$House" "walksTogether" "I" ∈ wsX2_copyFrom := by decide +kernel
theorem m_X2_copyFrom_f102 : Cond.fieldLink RX2 102 "ShameYards$House" "seenCount" "I" ∈ wsX2_copyFrom := by decide +kernel
theorem m_X2_copyFrom_f30 : Cond.fieldLink RX2 30 "ShameYards$House" "oneEnd" "[I" ∈ wsX2_copyFrom := by decide +kernel
theorem m_X2_copyFrom_l105 : Cond.methodLink RX2 105 arraycopyName ∈ wsX2_copyFrom := by decide +kernel
theorem m_X2_copyFrom_nac : Cond.native arraycopyName ∈ wsX2_copyFrom := by decide +kernel
theorem m_X2_copyFrom_sac : Cond.static arraycopyName ∈ wsX2_copyFrom := by decide +kernel
theorem m_X2_copyFrom_isys : Cond.initialized "java/lang/System" ∈ wsX2_copyFrom := by decide +kernel
theorem m_X2_copyFrom_f34 : Cond.fieldLink RX2 34 "ShameYards$House" "otherEnd" "[I" ∈ wsX2_copyFrom := by decide +kernel
theorem m_X2_copyFrom_f37 : Cond.fieldLink RX2 37 "ShameYards$House" "lengths" "[I" ∈ wsX2_copyFrom := by decide +kernel
theorem m_X2_copyFrom_f40 : Cond.fieldLink RX2 40 "ShameYards$House" "kinds" "[I" ∈ wsX2_copyFrom := by decide +kernel
theorem m_X2_copyFrom_f43 : Cond.fieldLink RX2 43 "ShameYards$House" "deeds" "[I" ∈ wsX2_copyFrom := by decide +kernel
theorem m_X2_copyFrom_f46 : Cond.fieldLink RX2 46 "ShameYards$House" "lies" "[I" ∈ wsX2_copyFrom := by decide +kernel
theorem m_X2_copyFrom_f49 : Cond.fieldLink RX2 49 "ShameYards$House" "places" "[I" ∈ wsX2_copyFrom := by decide +kernel
theorem m_X2_copyFrom_f52 : Cond.fieldLink RX2 52 "ShameYards$House" "taken" "[I" ∈ wsX2_copyFrom := by decide +kernel
theorem m_X2_copyFrom_f55 : Cond.fieldLink RX2 55 "ShameYards$House" "seenPerson" "[I" ∈ wsX2_copyFrom := by decide +kernel
theorem m_X2_copyFrom_f58 : Cond.fieldLink RX2 58 "ShameYards$House" "seenPassage" "[I" ∈ wsX2_copyFrom := by decide +kernel
theorem m_X2_copyFrom_f61 : Cond.fieldLink RX2 61 "ShameYards$House" "seenWith" "[I" ∈ wsX2_copyFrom := by decide +kernel
theorem m_X2_copyFrom_f64 : Cond.fieldLink RX2 64 "ShameYards$House" "seenSteps" "[I" ∈ wsX2_copyFrom := by decide +kernel
set_option maxHeartbeats 4000000 in
set_option maxRecDepth 100000 in
theorem c_X2_copyFrom (l : Launch) (D : va_G) (cy : Nat → ClassId) (ad : Nat → Nat) (A : Nat → Prop) (G : Gd A ad nsX) (b : Nat) (b2 : Nat) (h_b : isH b) (h_b2 : isH b2)  (M : Mm) (post : Mm → Prop) (h : w_X2_copyFrom b b2 M post) : CV l yX2_copyFrom wsX2_copyFrom (rmL 2) D (tysC cy) A ad nsX (ceX ad cy) [.ref (ad b), .ref (ad b2)] M post := by
  refine Met_V (cc := cX2_copyFrom) (maxL := 2) (ret := none) (by decide) rfl G Lo_X (Nat.le_of_ble_eq_true rfl) rfl ?_
  intro p e s m args below meth c C hr hlk
  have C : Cx p s m args c cX2_copyFrom 2 RX2 wsX2_copyFrom D (tysC cy) A ad nsX (ceX ad cy) := C
  unfold w_X2_copyFrom at h
  refine V_aload_n C 0 dX2_copyFrom_0 rfl ?_
  refine V_aload_n C 1 dX2_copyFrom_1 rfl ?_
  refine V_get (k0 := 1) (Cn := RX2) (T := TX2) (N := 18) C (hs_mem0 h_b2) rfl iw_X2_copyFrom_X2 (by decide) rfl m_X2_copyFrom_f77 ((ceX_H h_b2) _) rfl dX2_copyFrom_2 ?_
  refine V_putI (k0 := 1) (Cn := RX2) (T := TX2) (N := 18) C (hs_mem0 h_b) rfl iw_X2_copyFrom_X2 (by decide) rfl m_X2_copyFrom_f77 tyX2_ok nmX2 rfl (show _ = some FieldType.int by decide +kernel) rfl rfl (Nat.le_of_ble_eq_true rfl) ((ceX_H h_b) _) (stXH_1 h_b _ _) dX2_copyFrom_5 (fun M1 e2 => ?_)
  have h := h M1 e2
  refine V_aload_n C 0 dX2_copyFrom_8 rfl ?_
  refine V_aload_n C 1 dX2_copyFrom_9 rfl ?_
  refine V_get (k0 := 2) (Cn := RX2) (T := TX2) (N := 18) C (hs_mem0 h_b2) rfl iw_X2_copyFrom_X2 (by decide) rfl m_X2_copyFrom_f87 ((ceX_H h_b2) _) rfl dX2_copyFrom_10 ?_
  refine V_putI (k0 := 2) (Cn := RX2) (T := TX2) (N := 18) C (hs_mem0 h_b) rfl iw_X2_copyFrom_X2 (by decide) rfl m_X2_copyFrom_f87 tyX2_ok nmX2 rfl (show _ = some FieldType.int by decide +kernel) rfl rfl (Nat.le_of_ble_eq_true rfl) ((ceX_H h_b) _) (stXH_2 h_b _ _) dX2_copyFrom_13 (fun M3 e4 => ?_)
  have h := h M3 e4
  refine V_aload_n C 0 dX2_copyFrom_16 rfl ?_
  refine V_aload_n C 1 dX2_copyFrom_17 rfl ?_
  refine V_get (k0 := 3) (Cn := RX2) (T := TX2) (N := 18) C (hs_mem0 h_b2) rfl iw_X2_copyFrom_X2 (by decide) rfl m_X2_copyFrom_f93 ((ceX_H h_b2) _) rfl dX2_copyFrom_18 ?_
  refine V_putI (k0 := 3) (Cn := RX2) (T := TX2) (N := 18) C (hs_mem0 h_b) rfl iw_X2_copyFrom_X2 (by decide) rfl m_X2_copyFrom_f93 tyX2_ok nmX2 rfl (show _ = some FieldType.int by decide +kernel) rfl rfl (Nat.le_of_ble_eq_true rfl) ((ceX_H h_b) _) (stXH_3 h_b _ _) dX2_copyFrom_21 (fun M5 e6 => ?_)
  have h := h M5 e6
  refine V_aload_n C 0 dX2_copyFrom_24 rfl ?_
  refine V_aload_n C 1 dX2_copyFrom_25 rfl ?_
  refine V_get (k0 := 12) (Cn := RX2) (T := TX2) (N := 18) C (hs_mem0 h_b2) rfl iw_X2_copyFrom_X2 (by decide) rfl m_X2_copyFrom_f99 ((ceX_H h_b2) _) rfl dX2_copyFrom_26 ?_
  refine V_putI (k0 := 12) (Cn := RX2) (T := TX2) (N := 18) C (hs_mem0 h_b) rfl iw_X2_copyFrom_X2 (by decide) rfl m_X2_copyFrom_f99 tyX2_ok nmX2 rfl (show _ = some FieldType.int by decide +kernel) rfl rfl (Nat.le_of_ble_eq_true rfl) ((ceX_H h_b) _) (stXH_12 h_b _ _) dX2_copyFrom_29 (fun M7 e8 => ?_)
  have h := h M7 e8
  refine V_aload_n C 0 dX2_copyFrom_32 rfl ?_
  refine V_aload_n C 1 dX2_copyFrom_33 rfl ?_
  refine V_get (k0 := 13) (Cn := RX2) (T := TX2) (N := 18) C (hs_mem0 h_b2) rfl iw_X2_copyFrom_X2 (by decide) rfl m_X2_copyFrom_f102 ((ceX_H h_b2) _) rfl dX2_copyFrom_34 ?_
  refine V_putI (k0 := 13) (Cn := RX2) (T := TX2) (N := 18) C (hs_mem0 h_b) rfl iw_X2_copyFrom_X2 (by decide) rfl m_X2_copyFrom_f102 tyX2_ok nmX2 rfl (show _ = some FieldType.int by decide +kernel) rfl rfl (Nat.le_of_ble_eq_true rfl) ((ceX_H h_b) _) (stXH_13 h_b _ _) dX2_copyFrom_37 (fun M9 e10 => ?_)
  have h := h M9 e10
  refine V_aload_n C 1 dX2_copyFrom_40 rfl ?_
  refine V_get (k0 := 4) (Cn := RX2) (T := TX2) (N := 18) C (hs_mem0 h_b2) rfl iw_X2_copyFrom_X2 (by decide) rfl m_X2_copyFrom_f30 ((ceX_H h_b2) _) rfl dX2_copyFrom_41 ?_
  refine V_iconst (v := (0 : Int32)) C dX2_copyFrom_44 (by decide) ?_
  refine V_aload_n C 0 dX2_copyFrom_45 rfl ?_
  refine V_get (k0 := 4) (Cn := RX2) (T := TX2) (N := 18) C (hs_mem0 h_b) rfl iw_X2_copyFrom_X2 (by decide) rfl m_X2_copyFrom_f30 ((ceX_H h_b) _) rfl dX2_copyFrom_46 ?_
  refine V_iconst (v := (0 : Int32)) C dX2_copyFrom_49 (by decide) ?_
  refine V_bipush (v := (7 : Int32)) C dX2_copyFrom_50 (by decide) ?_
  refine V_copyi (t0 := 1) (L0 := 7) (L1 := 7) C m_X2_copyFrom_l105 m_X2_copyFrom_nac m_X2_copyFrom_sac m_X2_copyFrom_isys (hs_mem h_b2 (by decide)) (hs_mem h_b (by decide)) (hs_7 h_b2) (hs_7 h_b) rfl (by decide) (by decide) (by decide) (by decide) (by decide) (by decide) (Nat.le_of_ble_eq_true rfl) dX2_copyFrom_52 (fun M11 e12 => ?_)
  have h := h M11 e12
  refine V_aload_n C 1 dX2_copyFrom_55 rfl ?_
  refine V_get (k0 := 5) (Cn := RX2) (T := TX2) (N := 18) C (hs_mem0 h_b2) rfl iw_X2_copyFrom_X2 (by decide) rfl m_X2_copyFrom_f34 ((ceX_H h_b2) _) rfl dX2_copyFrom_56 ?_
  refine V_iconst (v := (0 : Int32)) C dX2_copyFrom_59 (by decide) ?_
  refine V_aload_n C 0 dX2_copyFrom_60 rfl ?_
  refine V_get (k0 := 5) (Cn := RX2) (T := TX2) (N := 18) C (hs_mem0 h_b) rfl iw_X2_copyFrom_X2 (by decide) rfl m_X2_copyFrom_f34 ((ceX_H h_b) _) rfl dX2_copyFrom_61 ?_
  refine V_iconst (v := (0 : Int32)) C dX2_copyFrom_64 (by decide) ?_
  refine V_bipush (v := (7 : Int32)) C dX2_copyFrom_65 (by decide) ?_
  refine V_copyi (t0 := 1) (L0 := 7) (L1 := 7) C m_X2_copyFrom_l105 m_X2_copyFrom_nac m_X2_copyFrom_sac m_X2_copyFrom_isys (hs_mem h_b2 (by decide)) (hs_mem h_b (by decide)) (hs_8 h_b2) (hs_8 h_b) rfl (by decide) (by decide) (by decide) (by decide) (by decide) (by decide) (Nat.le_of_ble_eq_true rfl) dX2_copyFrom_67 (fun M13 e14 => ?_)
  have h := h M13 e14
  refine V_aload_n C 1 dX2_copyFrom_70 rfl ?_
  refine V_get (k0 := 6) (Cn := RX2) (T := TX2) (N := 18) C (hs_mem0 h_b2) rfl iw_X2_copyFrom_X2 (by decide) rfl m_X2_copyFrom_f37 ((ceX_H h_b2) _) rfl dX2_copyFrom_71 ?_
  refine V_iconst (v := (0 : Int32)) C dX2_copyFrom_74 (by decide) ?_
  refine V_aload_n C 0 dX2_copyFrom_75 rfl ?_
  refine V_get (k0 := 6) (Cn := RX2) (T := TX2) (N := 18) C (hs_mem0 h_b) rfl iw_X2_copyFrom_X2 (by decide) rfl m_X2_copyFrom_f37 ((ceX_H h_b) _) rfl dX2_copyFrom_76 ?_
  refine V_iconst (v := (0 : Int32)) C dX2_copyFrom_79 (by decide) ?_
  refine V_bipush (v := (7 : Int32)) C dX2_copyFrom_80 (by decide) ?_
  refine V_copyi (t0 := 1) (L0 := 7) (L1 := 7) C m_X2_copyFrom_l105 m_X2_copyFrom_nac m_X2_copyFrom_sac m_X2_copyFrom_isys (hs_mem h_b2 (by decide)) (hs_mem h_b (by decide)) (hs_9 h_b2) (hs_9 h_b) rfl (by decide) (by decide) (by decide) (by decide) (by decide) (by decide) (Nat.le_of_ble_eq_true rfl) dX2_copyFrom_82 (fun M15 e16 => ?_)
  have h := h M15 e16
  refine V_aload_n C 1 dX2_copyFrom_85 rfl ?_
  refine V_get (k0 := 7) (Cn := RX2) (T := TX2) (N := 18) C (hs_mem0 h_b2) rfl iw_X2_copyFrom_X2 (by decide) rfl m_X2_copyFrom_f40 ((ceX_H h_b2) _) rfl dX2_copyFrom_86 ?_
  refine V_iconst (v := (0 : Int32)) C dX2_copyFrom_89 (by decide) ?_
  refine V_aload_n C 0 dX2_copyFrom_90 rfl ?_
  refine V_get (k0 := 7) (Cn := RX2) (T := TX2) (N := 18) C (hs_mem0 h_b) rfl iw_X2_copyFrom_X2 (by decide) rfl m_X2_copyFrom_f40 ((ceX_H h_b) _) rfl dX2_copyFrom_91 ?_
  refine V_iconst (v := (0 : Int32)) C dX2_copyFrom_94 (by decide) ?_
  refine V_iconst (v := (5 : Int32)) C dX2_copyFrom_95 (by decide) ?_
  refine V_copyi (t0 := 1) (L0 := 5) (L1 := 5) C m_X2_copyFrom_l105 m_X2_copyFrom_nac m_X2_copyFrom_sac m_X2_copyFrom_isys (hs_mem h_b2 (by decide)) (hs_mem h_b (by decide)) (hs_10 h_b2) (hs_10 h_b) rfl (by decide) (by decide) (by decide) (by decide) (by decide) (by decide) (Nat.le_of_ble_eq_true rfl) dX2_copyFrom_96 (fun M17 e18 => ?_)
  have h := h M17 e18
  refine V_aload_n C 1 dX2_copyFrom_99 rfl ?_
  refine V_get (k0 := 8) (Cn := RX2) (T := TX2) (N := 18) C (hs_mem0 h_b2) rfl iw_X2_copyFrom_X2 (by decide) rfl m_X2_copyFrom_f43 ((ceX_H h_b2) _) rfl dX2_copyFrom_100 ?_
  refine V_iconst (v := (0 : Int32)) C dX2_copyFrom_103 (by decide) ?_
  refine V_aload_n C 0 dX2_copyFrom_104 rfl ?_
  refine V_get (k0 := 8) (Cn := RX2) (T := TX2) (N := 18) C (hs_mem0 h_b) rfl iw_X2_copyFrom_X2 (by decide) rfl m_X2_copyFrom_f43 ((ceX_H h_b) _) rfl dX2_copyFrom_105 ?_
  refine V_iconst (v := (0 : Int32)) C dX2_copyFrom_108 (by decide) ?_
  refine V_iconst (v := (5 : Int32)) C dX2_copyFrom_109 (by decide) ?_
  refine V_copyi (t0 := 1) (L0 := 5) (L1 := 5) C m_X2_copyFrom_l105 m_X2_copyFrom_nac m_X2_copyFrom_sac m_X2_copyFrom_isys (hs_mem h_b2 (by decide)) (hs_mem h_b (by decide)) (hs_11 h_b2) (hs_11 h_b) rfl (by decide) (by decide) (by decide) (by decide) (by decide) (by decide) (Nat.le_of_ble_eq_true rfl) dX2_copyFrom_110 (fun M19 e20 => ?_)
  have h := h M19 e20
  refine V_aload_n C 1 dX2_copyFrom_113 rfl ?_
  refine V_get (k0 := 9) (Cn := RX2) (T := TX2) (N := 18) C (hs_mem0 h_b2) rfl iw_X2_copyFrom_X2 (by decide) rfl m_X2_copyFrom_f46 ((ceX_H h_b2) _) rfl dX2_copyFrom_114 ?_
  refine V_iconst (v := (0 : Int32)) C dX2_copyFrom_117 (by decide) ?_
  refine V_aload_n C 0 dX2_copyFrom_118 rfl ?_
  refine V_get (k0 := 9) (Cn := RX2) (T := TX2) (N := 18) C (hs_mem0 h_b) rfl iw_X2_copyFrom_X2 (by decide) rfl m_X2_copyFrom_f46 ((ceX_H h_b) _) rfl dX2_copyFrom_119 ?_
  refine V_iconst (v := (0 : Int32)) C dX2_copyFrom_122 (by decide) ?_
  refine V_iconst (v := (5 : Int32)) C dX2_copyFrom_123 (by decide) ?_
  refine V_copyi (t0 := 1) (L0 := 5) (L1 := 5) C m_X2_copyFrom_l105 m_X2_copyFrom_nac m_X2_copyFrom_sac m_X2_copyFrom_isys (hs_mem h_b2 (by decide)) (hs_mem h_b (by decide)) (hs_12 h_b2) (hs_12 h_b) rfl (by decide) (by decide) (by decide) (by decide) (by decide) (by decide) (Nat.le_of_ble_eq_true rfl) dX2_copyFrom_124 (fun M21 e22 => ?_)
  have h := h M21 e22
  refine V_aload_n C 1 dX2_copyFrom_127 rfl ?_
  refine V_get (k0 := 10) (Cn := RX2) (T := TX2) (N := 18) C (hs_mem0 h_b2) rfl iw_X2_copyFrom_X2 (by decide) rfl m_X2_copyFrom_f49 ((ceX_H h_b2) _) rfl dX2_copyFrom_128 ?_
  refine V_iconst (v := (0 : Int32)) C dX2_copyFrom_131 (by decide) ?_
  refine V_aload_n C 0 dX2_copyFrom_132 rfl ?_
  refine V_get (k0 := 10) (Cn := RX2) (T := TX2) (N := 18) C (hs_mem0 h_b) rfl iw_X2_copyFrom_X2 (by decide) rfl m_X2_copyFrom_f49 ((ceX_H h_b) _) rfl dX2_copyFrom_133 ?_
  refine V_iconst (v := (0 : Int32)) C dX2_copyFrom_136 (by decide) ?_
  refine V_iconst (v := (5 : Int32)) C dX2_copyFrom_137 (by decide) ?_
  refine V_copyi (t0 := 1) (L0 := 5) (L1 := 5) C m_X2_copyFrom_l105 m_X2_copyFrom_nac m_X2_copyFrom_sac m_X2_copyFrom_isys (hs_mem h_b2 (by decide)) (hs_mem h_b (by decide)) (hs_13 h_b2) (hs_13 h_b) rfl (by decide) (by decide) (by decide) (by decide) (by decide) (by decide) (Nat.le_of_ble_eq_true rfl) dX2_copyFrom_138 (fun M23 e24 => ?_)
  have h := h M23 e24
  refine V_aload_n C 1 dX2_copyFrom_141 rfl ?_
  refine V_get (k0 := 11) (Cn := RX2) (T := TX2) (N := 18) C (hs_mem0 h_b2) rfl iw_X2_copyFrom_X2 (by decide) rfl m_X2_copyFrom_f52 ((ceX_H h_b2) _) rfl dX2_copyFrom_142 ?_
  refine V_iconst (v := (0 : Int32)) C dX2_copyFrom_145 (by decide) ?_
  refine V_aload_n C 0 dX2_copyFrom_146 rfl ?_
  refine V_get (k0 := 11) (Cn := RX2) (T := TX2) (N := 18) C (hs_mem0 h_b) rfl iw_X2_copyFrom_X2 (by decide) rfl m_X2_copyFrom_f52 ((ceX_H h_b) _) rfl dX2_copyFrom_147 ?_
  refine V_iconst (v := (0 : Int32)) C dX2_copyFrom_150 (by decide) ?_
  refine V_iconst (v := (5 : Int32)) C dX2_copyFrom_151 (by decide) ?_
  refine V_copyi (t0 := 1) (L0 := 5) (L1 := 5) C m_X2_copyFrom_l105 m_X2_copyFrom_nac m_X2_copyFrom_sac m_X2_copyFrom_isys (hs_mem h_b2 (by decide)) (hs_mem h_b (by decide)) (hs_14 h_b2) (hs_14 h_b) rfl (by decide) (by decide) (by decide) (by decide) (by decide) (by decide) (Nat.le_of_ble_eq_true rfl) dX2_copyFrom_152 (fun M25 e26 => ?_)
  have h := h M25 e26
  refine V_aload_n C 1 dX2_copyFrom_155 rfl ?_
  refine V_get (k0 := 14) (Cn := RX2) (T := TX2) (N := 18) C (hs_mem0 h_b2) rfl iw_X2_copyFrom_X2 (by decide) rfl m_X2_copyFrom_f55 ((ceX_H h_b2) _) rfl dX2_copyFrom_156 ?_
  refine V_iconst (v := (0 : Int32)) C dX2_copyFrom_159 (by decide) ?_
  refine V_aload_n C 0 dX2_copyFrom_160 rfl ?_
  refine V_get (k0 := 14) (Cn := RX2) (T := TX2) (N := 18) C (hs_mem0 h_b) rfl iw_X2_copyFrom_X2 (by decide) rfl m_X2_copyFrom_f55 ((ceX_H h_b) _) rfl dX2_copyFrom_161 ?_
  refine V_iconst (v := (0 : Int32)) C dX2_copyFrom_164 (by decide) ?_
  refine V_bipush (v := (6 : Int32)) C dX2_copyFrom_165 (by decide) ?_
  refine V_copyi (t0 := 1) (L0 := 6) (L1 := 6) C m_X2_copyFrom_l105 m_X2_copyFrom_nac m_X2_copyFrom_sac m_X2_copyFrom_isys (hs_mem h_b2 (by decide)) (hs_mem h_b (by decide)) (hs_15 h_b2) (hs_15 h_b) rfl (by decide) (by decide) (by decide) (by decide) (by decide) (by decide) (Nat.le_of_ble_eq_true rfl) dX2_copyFrom_167 (fun M27 e28 => ?_)
  have h := h M27 e28
  refine V_aload_n C 1 dX2_copyFrom_170 rfl ?_
  refine V_get (k0 := 15) (Cn := RX2) (T := TX2) (N := 18) C (hs_mem0 h_b2) rfl iw_X2_copyFrom_X2 (by decide) rfl m_X2_copyFrom_f58 ((ceX_H h_b2) _) rfl dX2_copyFrom_171 ?_
  refine V_iconst (v := (0 : Int32)) C dX2_copyFrom_174 (by decide) ?_
  refine V_aload_n C 0 dX2_copyFrom_175 rfl ?_
  refine V_get (k0 := 15) (Cn := RX2) (T := TX2) (N := 18) C (hs_mem0 h_b) rfl iw_X2_copyFrom_X2 (by decide) rfl m_X2_copyFrom_f58 ((ceX_H h_b) _) rfl dX2_copyFrom_176 ?_
  refine V_iconst (v := (0 : Int32)) C dX2_copyFrom_179 (by decide) ?_
  refine V_bipush (v := (6 : Int32)) C dX2_copyFrom_180 (by decide) ?_
  refine V_copyi (t0 := 1) (L0 := 6) (L1 := 6) C m_X2_copyFrom_l105 m_X2_copyFrom_nac m_X2_copyFrom_sac m_X2_copyFrom_isys (hs_mem h_b2 (by decide)) (hs_mem h_b (by decide)) (hs_16 h_b2) (hs_16 h_b) rfl (by decide) (by decide) (by decide) (by decide) (by decide) (by decide) (Nat.le_of_ble_eq_true rfl) dX2_copyFrom_182 (fun M29 e30 => ?_)
  have h := h M29 e30
  refine V_aload_n C 1 dX2_copyFrom_185 rfl ?_
  refine V_get (k0 := 16) (Cn := RX2) (T := TX2) (N := 18) C (hs_mem0 h_b2) rfl iw_X2_copyFrom_X2 (by decide) rfl m_X2_copyFrom_f61 ((ceX_H h_b2) _) rfl dX2_copyFrom_186 ?_
  refine V_iconst (v := (0 : Int32)) C dX2_copyFrom_189 (by decide) ?_
  refine V_aload_n C 0 dX2_copyFrom_190 rfl ?_
  refine V_get (k0 := 16) (Cn := RX2) (T := TX2) (N := 18) C (hs_mem0 h_b) rfl iw_X2_copyFrom_X2 (by decide) rfl m_X2_copyFrom_f61 ((ceX_H h_b) _) rfl dX2_copyFrom_191 ?_
  refine V_iconst (v := (0 : Int32)) C dX2_copyFrom_194 (by decide) ?_
  refine V_bipush (v := (6 : Int32)) C dX2_copyFrom_195 (by decide) ?_
  refine V_copyi (t0 := 1) (L0 := 6) (L1 := 6) C m_X2_copyFrom_l105 m_X2_copyFrom_nac m_X2_copyFrom_sac m_X2_copyFrom_isys (hs_mem h_b2 (by decide)) (hs_mem h_b (by decide)) (hs_17 h_b2) (hs_17 h_b) rfl (by decide) (by decide) (by decide) (by decide) (by decide) (by decide) (Nat.le_of_ble_eq_true rfl) dX2_copyFrom_197 (fun M31 e32 => ?_)
  have h := h M31 e32
  refine V_aload_n C 1 dX2_copyFrom_200 rfl ?_
  refine V_get (k0 := 17) (Cn := RX2) (T := TX2) (N := 18) C (hs_mem0 h_b2) rfl iw_X2_copyFrom_X2 (by decide) rfl m_X2_copyFrom_f64 ((ceX_H h_b2) _) rfl dX2_copyFrom_201 ?_
  refine V_iconst (v := (0 : Int32)) C dX2_copyFrom_204 (by decide) ?_
  refine V_aload_n C 0 dX2_copyFrom_205 rfl ?_
  refine V_get (k0 := 17) (Cn := RX2) (T := TX2) (N := 18) C (hs_mem0 h_b) rfl iw_X2_copyFrom_X2 (by decide) rfl m_X2_copyFrom_f64 ((ceX_H h_b) _) rfl dX2_copyFrom_206 ?_
  refine V_iconst (v := (0 : Int32)) C dX2_copyFrom_209 (by decide) ?_
  refine V_bipush (v := (6 : Int32)) C dX2_copyFrom_210 (by decide) ?_
  refine V_copyi (t0 := 1) (L0 := 6) (L1 := 6) C m_X2_copyFrom_l105 m_X2_copyFrom_nac m_X2_copyFrom_sac m_X2_copyFrom_isys (hs_mem h_b2 (by decide)) (hs_mem h_b (by decide)) (hs_18 h_b2) (hs_18 h_b) rfl (by decide) (by decide) (by decide) (by decide) (by decide) (by decide) (Nat.le_of_ble_eq_true rfl) dX2_copyFrom_212 (fun M33 e34 => ?_)
  have h := h M33 e34
  exact V_vret C hr hlk dX2_copyFrom_215 h
end
