section
-- ===== PART A: goes FIRST, ahead of the names: the tables' words, and 'selects' of the private methods out of them =====
/-- a private method of a class that the tables say can be made, by its rows of tables_1 -/
def lw_okq (q : MethodName × Nat) : Prop := (q.1.cls ≠ "java/lang/invoke/MethodHandle" ∧ q.1.cls ≠ "java/lang/invoke/VarHandle") ∧ Cond.instantiable q.1.cls q.2 ∈ tables_1 ∧ Cond.privateMethod q.1 ∈ tables_1 ∧ Cond.instanceMethod q.1 ∈ tables_1
theorem lw_p0 : lw_okq (⟨"DomainHouse", "feedNumber", "(I)V"⟩, 12) := ⟨⟨by decide +kernel, by decide +kernel⟩, List.mem_of_getElem? (i := 23) (by decide +kernel), List.mem_of_getElem? (i := 576) (by decide +kernel), List.mem_of_getElem? (i := 577) (by decide +kernel)⟩
theorem lw_p1 : lw_okq (⟨"DomainHouse", "isDomain", "(I)Z"⟩, 12) := ⟨⟨by decide +kernel, by decide +kernel⟩, List.mem_of_getElem? (i := 23) (by decide +kernel), List.mem_of_getElem? (i := 651) (by decide +kernel), List.mem_of_getElem? (i := 652) (by decide +kernel)⟩
theorem lw_p2 : lw_okq (⟨"DomainHouse", "isTie", "(I)Z"⟩, 12) := ⟨⟨by decide +kernel, by decide +kernel⟩, List.mem_of_getElem? (i := 23) (by decide +kernel), List.mem_of_getElem? (i := 719) (by decide +kernel), List.mem_of_getElem? (i := 720) (by decide +kernel)⟩
theorem lw_p3 : lw_okq (⟨"DomainHouse$Talk", "say", "(III)V"⟩, 13) := ⟨⟨by decide +kernel, by decide +kernel⟩, List.mem_of_getElem? (i := 312) (by decide +kernel), List.mem_of_getElem? (i := 731) (by decide +kernel), List.mem_of_getElem? (i := 732) (by decide +kernel)⟩
theorem lw_p4 : lw_okq (⟨"DomainHouse$Talk", "compose", "(LDomainHouse$Tie;III)V"⟩, 13) := ⟨⟨by decide +kernel, by decide +kernel⟩, List.mem_of_getElem? (i := 312) (by decide +kernel), List.mem_of_getElem? (i := 735) (by decide +kernel), List.mem_of_getElem? (i := 736) (by decide +kernel)⟩
theorem lw_p5 : lw_okq (⟨"DomainHouse$Judge", "goThrough", "(II)V"⟩, 9) := ⟨⟨by decide +kernel, by decide +kernel⟩, List.mem_of_getElem? (i := 205) (by decide +kernel), List.mem_of_getElem? (i := 763) (by decide +kernel), List.mem_of_getElem? (i := 764) (by decide +kernel)⟩
theorem lw_p6 : lw_okq (⟨"DomainHouse$Judge", "isSo", "(LDomainHouse$Policy;I)Z"⟩, 9) := ⟨⟨by decide +kernel, by decide +kernel⟩, List.mem_of_getElem? (i := 205) (by decide +kernel), List.mem_of_getElem? (i := 767) (by decide +kernel), List.mem_of_getElem? (i := 768) (by decide +kernel)⟩
theorem lw_p7 : lw_okq (⟨"DomainHouse$Judge", "doActs", "([IIII)V"⟩, 9) := ⟨⟨by decide +kernel, by decide +kernel⟩, List.mem_of_getElem? (i := 205) (by decide +kernel), List.mem_of_getElem? (i := 787) (by decide +kernel), List.mem_of_getElem? (i := 788) (by decide +kernel)⟩
theorem lw_p8 : lw_okq (⟨"DomainHouse$Talk", "schedule", "(II)V"⟩, 13) := ⟨⟨by decide +kernel, by decide +kernel⟩, List.mem_of_getElem? (i := 312) (by decide +kernel), List.mem_of_getElem? (i := 810) (by decide +kernel), List.mem_of_getElem? (i := 811) (by decide +kernel)⟩
theorem lw_p9 : lw_okq (⟨"DomainHouse$Talk", "cancel", "(I)V"⟩, 13) := ⟨⟨by decide +kernel, by decide +kernel⟩, List.mem_of_getElem? (i := 312) (by decide +kernel), List.mem_of_getElem? (i := 815) (by decide +kernel), List.mem_of_getElem? (i := 816) (by decide +kernel)⟩
theorem lw_p10 : lw_okq (⟨"DomainHouse$Talk", "gather", "(II)V"⟩, 13) := ⟨⟨by decide +kernel, by decide +kernel⟩, List.mem_of_getElem? (i := 312) (by decide +kernel), List.mem_of_getElem? (i := 840) (by decide +kernel), List.mem_of_getElem? (i := 841) (by decide +kernel)⟩
theorem lw_p11 : lw_okq (⟨"DomainHouse$Talk", "pickGrouped", "(LDomainHouse$Domain;)I"⟩, 13) := ⟨⟨by decide +kernel, by decide +kernel⟩, List.mem_of_getElem? (i := 312) (by decide +kernel), List.mem_of_getElem? (i := 852) (by decide +kernel), List.mem_of_getElem? (i := 853) (by decide +kernel)⟩
theorem lw_p12 : lw_okq (⟨"DomainHouse$Talk", "isFirstOfGroup", "(I)Z"⟩, 13) := ⟨⟨by decide +kernel, by decide +kernel⟩, List.mem_of_getElem? (i := 312) (by decide +kernel), List.mem_of_getElem? (i := 856) (by decide +kernel), List.mem_of_getElem? (i := 857) (by decide +kernel)⟩
theorem lw_p13 : lw_okq (⟨"DomainHouse$Talk", "bestOfGroup", "(LDomainHouse$Domain;I)I"⟩, 13) := ⟨⟨by decide +kernel, by decide +kernel⟩, List.mem_of_getElem? (i := 312) (by decide +kernel), List.mem_of_getElem? (i := 864) (by decide +kernel), List.mem_of_getElem? (i := 865) (by decide +kernel)⟩
theorem lw_p14 : lw_okq (⟨"DomainHouse$Talk", "insertWinner", "(II)V"⟩, 13) := ⟨⟨by decide +kernel, by decide +kernel⟩, List.mem_of_getElem? (i := 312) (by decide +kernel), List.mem_of_getElem? (i := 877) (by decide +kernel), List.mem_of_getElem? (i := 878) (by decide +kernel)⟩
theorem lw_p15 : lw_okq (⟨"DomainHouse$Talk", "groupOrder", "(I)J"⟩, 13) := ⟨⟨by decide +kernel, by decide +kernel⟩, List.mem_of_getElem? (i := 312) (by decide +kernel), List.mem_of_getElem? (i := 881) (by decide +kernel), List.mem_of_getElem? (i := 882) (by decide +kernel)⟩
def lw_privs_1 : List (MethodName × Nat) := [(⟨"DomainHouse", "feedNumber", "(I)V"⟩, 12), (⟨"DomainHouse", "isDomain", "(I)Z"⟩, 12), (⟨"DomainHouse", "isTie", "(I)Z"⟩, 12), (⟨"DomainHouse$Talk", "say", "(III)V"⟩, 13), (⟨"DomainHouse$Talk", "compose", "(LDomainHouse$Tie;III)V"⟩, 13), (⟨"DomainHouse$Judge", "goThrough", "(II)V"⟩, 9), (⟨"DomainHouse$Judge", "isSo", "(LDomainHouse$Policy;I)Z"⟩, 9), (⟨"DomainHouse$Judge", "doActs", "([IIII)V"⟩, 9), (⟨"DomainHouse$Talk", "schedule", "(II)V"⟩, 13), (⟨"DomainHouse$Talk", "cancel", "(I)V"⟩, 13), (⟨"DomainHouse$Talk", "gather", "(II)V"⟩, 13), (⟨"DomainHouse$Talk", "pickGrouped", "(LDomainHouse$Domain;)I"⟩, 13), (⟨"DomainHouse$Talk", "isFirstOfGroup", "(I)Z"⟩, 13), (⟨"DomainHouse$Talk", "bestOfGroup", "(LDomainHouse$Domain;I)I"⟩, 13), (⟨"DomainHouse$Talk", "insertWinner", "(II)V"⟩, 13), (⟨"DomainHouse$Talk", "groupOrder", "(I)J"⟩, 13)]
theorem lw_r1 : ∀ q ∈ lw_privs_1, lw_okq q := List.forall_mem_cons.mpr ⟨lw_p0, List.forall_mem_cons.mpr ⟨lw_p1, List.forall_mem_cons.mpr ⟨lw_p2, List.forall_mem_cons.mpr ⟨lw_p3, List.forall_mem_cons.mpr ⟨lw_p4, List.forall_mem_cons.mpr ⟨lw_p5, List.forall_mem_cons.mpr ⟨lw_p6, List.forall_mem_cons.mpr ⟨lw_p7, List.forall_mem_cons.mpr ⟨lw_p8, List.forall_mem_cons.mpr ⟨lw_p9, List.forall_mem_cons.mpr ⟨lw_p10, List.forall_mem_cons.mpr ⟨lw_p11, List.forall_mem_cons.mpr ⟨lw_p12, List.forall_mem_cons.mpr ⟨lw_p13, List.forall_mem_cons.mpr ⟨lw_p14, List.forall_mem_cons.mpr ⟨lw_p15, fun _ h => absurd h List.not_mem_nil⟩⟩⟩⟩⟩⟩⟩⟩⟩⟩⟩⟩⟩⟩⟩⟩
theorem lw_p16 : lw_okq (⟨"DomainHouse$Talk", "lastStanding", "(LDomainHouse$Domain;I)I"⟩, 13) := ⟨⟨by decide +kernel, by decide +kernel⟩, List.mem_of_getElem? (i := 312) (by decide +kernel), List.mem_of_getElem? (i := 887) (by decide +kernel), List.mem_of_getElem? (i := 888) (by decide +kernel)⟩
theorem lw_p17 : lw_okq (⟨"DomainHouse$Talk", "pickPlain", "(LDomainHouse$Domain;)I"⟩, 13) := ⟨⟨by decide +kernel, by decide +kernel⟩, List.mem_of_getElem? (i := 312) (by decide +kernel), List.mem_of_getElem? (i := 891) (by decide +kernel), List.mem_of_getElem? (i := 892) (by decide +kernel)⟩
theorem lw_p18 : lw_okq (⟨"DomainHouse$World", "shortestRing", "(I)I"⟩, 19) := ⟨⟨by decide +kernel, by decide +kernel⟩, List.mem_of_getElem? (i := 112) (by decide +kernel), List.mem_of_getElem? (i := 917) (by decide +kernel), List.mem_of_getElem? (i := 918) (by decide +kernel)⟩
theorem lw_p19 : lw_okq (⟨"DomainHouse$World", "fillRing", "(II)V"⟩, 19) := ⟨⟨by decide +kernel, by decide +kernel⟩, List.mem_of_getElem? (i := 112) (by decide +kernel), List.mem_of_getElem? (i := 925) (by decide +kernel), List.mem_of_getElem? (i := 926) (by decide +kernel)⟩
theorem lw_p20 : lw_okq (⟨"DomainHouse$World", "leastCustomer", "(II)I"⟩, 19) := ⟨⟨by decide +kernel, by decide +kernel⟩, List.mem_of_getElem? (i := 112) (by decide +kernel), List.mem_of_getElem? (i := 929) (by decide +kernel), List.mem_of_getElem? (i := 930) (by decide +kernel)⟩
theorem lw_p21 : lw_okq (⟨"DomainHouse", "isPrefix", "(I)Z"⟩, 12) := ⟨⟨by decide +kernel, by decide +kernel⟩, List.mem_of_getElem? (i := 23) (by decide +kernel), List.mem_of_getElem? (i := 962) (by decide +kernel), List.mem_of_getElem? (i := 963) (by decide +kernel)⟩
theorem lw_p22 : lw_okq (⟨"DomainHouse$Reader", "split", "([II)V"⟩, 20) := ⟨⟨by decide +kernel, by decide +kernel⟩, List.mem_of_getElem? (i := 242) (by decide +kernel), List.mem_of_getElem? (i := 987) (by decide +kernel), List.mem_of_getElem? (i := 988) (by decide +kernel)⟩
theorem lw_p23 : lw_okq (⟨"DomainHouse$Reader", "putToken", "(III)V"⟩, 20) := ⟨⟨by decide +kernel, by decide +kernel⟩, List.mem_of_getElem? (i := 242) (by decide +kernel), List.mem_of_getElem? (i := 1046) (by decide +kernel), List.mem_of_getElem? (i := 1047) (by decide +kernel)⟩
theorem lw_p24 : lw_okq (⟨"DomainHouse$Reader", "putNumber", "([III)V"⟩, 20) := ⟨⟨by decide +kernel, by decide +kernel⟩, List.mem_of_getElem? (i := 242) (by decide +kernel), List.mem_of_getElem? (i := 1053) (by decide +kernel), List.mem_of_getElem? (i := 1054) (by decide +kernel)⟩
theorem lw_p25 : lw_okq (⟨"DomainHouse$Reader", "readRow", "()V"⟩, 20) := ⟨⟨by decide +kernel, by decide +kernel⟩, List.mem_of_getElem? (i := 242) (by decide +kernel), List.mem_of_getElem? (i := 1057) (by decide +kernel), List.mem_of_getElem? (i := 1058) (by decide +kernel)⟩
theorem lw_p26 : lw_okq (⟨"DomainHouse$Reader", "fail", "(I)V"⟩, 20) := ⟨⟨by decide +kernel, by decide +kernel⟩, List.mem_of_getElem? (i := 242) (by decide +kernel), List.mem_of_getElem? (i := 1064) (by decide +kernel), List.mem_of_getElem? (i := 1065) (by decide +kernel)⟩
theorem lw_p27 : lw_okq (⟨"DomainHouse$Reader", "put", "(I)V"⟩, 20) := ⟨⟨by decide +kernel, by decide +kernel⟩, List.mem_of_getElem? (i := 242) (by decide +kernel), List.mem_of_getElem? (i := 1068) (by decide +kernel), List.mem_of_getElem? (i := 1069) (by decide +kernel)⟩
theorem lw_p28 : lw_okq (⟨"DomainHouse$Reader", "take", "(I)Z"⟩, 20) := ⟨⟨by decide +kernel, by decide +kernel⟩, List.mem_of_getElem? (i := 242) (by decide +kernel), List.mem_of_getElem? (i := 1072) (by decide +kernel), List.mem_of_getElem? (i := 1073) (by decide +kernel)⟩
theorem lw_p29 : lw_okq (⟨"DomainHouse$Reader", "step", "()V"⟩, 20) := ⟨⟨by decide +kernel, by decide +kernel⟩, List.mem_of_getElem? (i := 242) (by decide +kernel), List.mem_of_getElem? (i := 1076) (by decide +kernel), List.mem_of_getElem? (i := 1077) (by decide +kernel)⟩
theorem lw_p30 : lw_okq (⟨"DomainHouse$Reader", "readTest", "()V"⟩, 20) := ⟨⟨by decide +kernel, by decide +kernel⟩, List.mem_of_getElem? (i := 242) (by decide +kernel), List.mem_of_getElem? (i := 1080) (by decide +kernel), List.mem_of_getElem? (i := 1081) (by decide +kernel)⟩
theorem lw_p31 : lw_okq (⟨"DomainHouse$Reader", "readHeldIn", "(I)V"⟩, 20) := ⟨⟨by decide +kernel, by decide +kernel⟩, List.mem_of_getElem? (i := 242) (by decide +kernel), List.mem_of_getElem? (i := 1087) (by decide +kernel), List.mem_of_getElem? (i := 1088) (by decide +kernel)⟩
def lw_privs_2 : List (MethodName × Nat) := [(⟨"DomainHouse$Talk", "lastStanding", "(LDomainHouse$Domain;I)I"⟩, 13), (⟨"DomainHouse$Talk", "pickPlain", "(LDomainHouse$Domain;)I"⟩, 13), (⟨"DomainHouse$World", "shortestRing", "(I)I"⟩, 19), (⟨"DomainHouse$World", "fillRing", "(II)V"⟩, 19), (⟨"DomainHouse$World", "leastCustomer", "(II)I"⟩, 19), (⟨"DomainHouse", "isPrefix", "(I)Z"⟩, 12), (⟨"DomainHouse$Reader", "split", "([II)V"⟩, 20), (⟨"DomainHouse$Reader", "putToken", "(III)V"⟩, 20), (⟨"DomainHouse$Reader", "putNumber", "([III)V"⟩, 20), (⟨"DomainHouse$Reader", "readRow", "()V"⟩, 20), (⟨"DomainHouse$Reader", "fail", "(I)V"⟩, 20), (⟨"DomainHouse$Reader", "put", "(I)V"⟩, 20), (⟨"DomainHouse$Reader", "take", "(I)Z"⟩, 20), (⟨"DomainHouse$Reader", "step", "()V"⟩, 20), (⟨"DomainHouse$Reader", "readTest", "()V"⟩, 20), (⟨"DomainHouse$Reader", "readHeldIn", "(I)V"⟩, 20)]
theorem lw_r2 : ∀ q ∈ lw_privs_2, lw_okq q := List.forall_mem_cons.mpr ⟨lw_p16, List.forall_mem_cons.mpr ⟨lw_p17, List.forall_mem_cons.mpr ⟨lw_p18, List.forall_mem_cons.mpr ⟨lw_p19, List.forall_mem_cons.mpr ⟨lw_p20, List.forall_mem_cons.mpr ⟨lw_p21, List.forall_mem_cons.mpr ⟨lw_p22, List.forall_mem_cons.mpr ⟨lw_p23, List.forall_mem_cons.mpr ⟨lw_p24, List.forall_mem_cons.mpr ⟨lw_p25, List.forall_mem_cons.mpr ⟨lw_p26, List.forall_mem_cons.mpr ⟨lw_p27, List.forall_mem_cons.mpr ⟨lw_p28, List.forall_mem_cons.mpr ⟨lw_p29, List.forall_mem_cons.mpr ⟨lw_p30, List.forall_mem_cons.mpr ⟨lw_p31, fun _ h => absurd h List.not_mem_nil⟩⟩⟩⟩⟩⟩⟩⟩⟩⟩⟩⟩⟩⟩⟩⟩
theorem lw_p32 : lw_okq (⟨"DomainHouse$Reader", "number", "(II)I"⟩, 20) := ⟨⟨by decide +kernel, by decide +kernel⟩, List.mem_of_getElem? (i := 242) (by decide +kernel), List.mem_of_getElem? (i := 1091) (by decide +kernel), List.mem_of_getElem? (i := 1092) (by decide +kernel)⟩
theorem lw_p33 : lw_okq (⟨"DomainHouse$Reader", "expect", "(I)V"⟩, 20) := ⟨⟨by decide +kernel, by decide +kernel⟩, List.mem_of_getElem? (i := 242) (by decide +kernel), List.mem_of_getElem? (i := 1095) (by decide +kernel), List.mem_of_getElem? (i := 1096) (by decide +kernel)⟩
theorem lw_p34 : lw_okq (⟨"DomainHouse$Reader", "putTest", "(IIIII)V"⟩, 20) := ⟨⟨by decide +kernel, by decide +kernel⟩, List.mem_of_getElem? (i := 242) (by decide +kernel), List.mem_of_getElem? (i := 1100) (by decide +kernel), List.mem_of_getElem? (i := 1101) (by decide +kernel)⟩
theorem lw_p35 : lw_okq (⟨"DomainHouse$Reader", "readWay", "(I)V"⟩, 20) := ⟨⟨by decide +kernel, by decide +kernel⟩, List.mem_of_getElem? (i := 242) (by decide +kernel), List.mem_of_getElem? (i := 1104) (by decide +kernel), List.mem_of_getElem? (i := 1105) (by decide +kernel)⟩
theorem lw_p36 : lw_okq (⟨"DomainHouse$Reader", "readBranches", "(I)V"⟩, 20) := ⟨⟨by decide +kernel, by decide +kernel⟩, List.mem_of_getElem? (i := 242) (by decide +kernel), List.mem_of_getElem? (i := 1108) (by decide +kernel), List.mem_of_getElem? (i := 1109) (by decide +kernel)⟩
theorem lw_p37 : lw_okq (⟨"DomainHouse$Reader", "readGroup", "(I)V"⟩, 20) := ⟨⟨by decide +kernel, by decide +kernel⟩, List.mem_of_getElem? (i := 242) (by decide +kernel), List.mem_of_getElem? (i := 1115) (by decide +kernel), List.mem_of_getElem? (i := 1116) (by decide +kernel)⟩
theorem lw_p38 : lw_okq (⟨"DomainHouse$Reader", "readPlace", "()V"⟩, 20) := ⟨⟨by decide +kernel, by decide +kernel⟩, List.mem_of_getElem? (i := 242) (by decide +kernel), List.mem_of_getElem? (i := 1119) (by decide +kernel), List.mem_of_getElem? (i := 1120) (by decide +kernel)⟩
theorem lw_p39 : lw_okq (⟨"DomainHouse$Reader", "readRepeat", "()V"⟩, 20) := ⟨⟨by decide +kernel, by decide +kernel⟩, List.mem_of_getElem? (i := 242) (by decide +kernel), List.mem_of_getElem? (i := 1124) (by decide +kernel), List.mem_of_getElem? (i := 1125) (by decide +kernel)⟩
theorem lw_p40 : lw_okq (⟨"DomainHouse$Reader", "join", "(JJ)V"⟩, 20) := ⟨⟨by decide +kernel, by decide +kernel⟩, List.mem_of_getElem? (i := 242) (by decide +kernel), List.mem_of_getElem? (i := 1128) (by decide +kernel), List.mem_of_getElem? (i := 1129) (by decide +kernel)⟩
theorem lw_p41 : lw_okq (⟨"DomainHouse$Reader", "oneOf", "(II)I"⟩, 20) := ⟨⟨by decide +kernel, by decide +kernel⟩, List.mem_of_getElem? (i := 242) (by decide +kernel), List.mem_of_getElem? (i := 1133) (by decide +kernel), List.mem_of_getElem? (i := 1134) (by decide +kernel)⟩
theorem lw_p42 : lw_okq (⟨"DomainHouse$Reader", "relation", "()I"⟩, 20) := ⟨⟨by decide +kernel, by decide +kernel⟩, List.mem_of_getElem? (i := 242) (by decide +kernel), List.mem_of_getElem? (i := 1140) (by decide +kernel), List.mem_of_getElem? (i := 1141) (by decide +kernel)⟩
theorem lw_p43 : lw_okq (⟨"DomainHouse$Reader", "readAct", "()V"⟩, 20) := ⟨⟨by decide +kernel, by decide +kernel⟩, List.mem_of_getElem? (i := 242) (by decide +kernel), List.mem_of_getElem? (i := 1144) (by decide +kernel), List.mem_of_getElem? (i := 1145) (by decide +kernel)⟩
theorem lw_p44 : lw_okq (⟨"DomainHouse", "rowInHand", "(I)I"⟩, 12) := ⟨⟨by decide +kernel, by decide +kernel⟩, List.mem_of_getElem? (i := 23) (by decide +kernel), List.mem_of_getElem? (i := 1224) (by decide +kernel), List.mem_of_getElem? (i := 1225) (by decide +kernel)⟩
theorem lw_p45 : lw_okq (⟨"DomainHouse$Talk", "handOver", "(LDomainHouse$Tie;II)V"⟩, 13) := ⟨⟨by decide +kernel, by decide +kernel⟩, List.mem_of_getElem? (i := 312) (by decide +kernel), List.mem_of_getElem? (i := 1262) (by decide +kernel), List.mem_of_getElem? (i := 1263) (by decide +kernel)⟩
theorem lw_p46 : lw_okq (⟨"DomainHouse$Talk", "candidateOver", "(I)I"⟩, 13) := ⟨⟨by decide +kernel, by decide +kernel⟩, List.mem_of_getElem? (i := 312) (by decide +kernel), List.mem_of_getElem? (i := 1293) (by decide +kernel), List.mem_of_getElem? (i := 1294) (by decide +kernel)⟩
theorem lw_p47 : lw_okq (⟨"DomainHouse$Message", "forget", "()V"⟩, 17) := ⟨⟨by decide +kernel, by decide +kernel⟩, List.mem_of_getElem? (i := 367) (by decide +kernel), List.mem_of_getElem? (i := 1317) (by decide +kernel), List.mem_of_getElem? (i := 1318) (by decide +kernel)⟩
def lw_privs_3 : List (MethodName × Nat) := [(⟨"DomainHouse$Reader", "number", "(II)I"⟩, 20), (⟨"DomainHouse$Reader", "expect", "(I)V"⟩, 20), (⟨"DomainHouse$Reader", "putTest", "(IIIII)V"⟩, 20), (⟨"DomainHouse$Reader", "readWay", "(I)V"⟩, 20), (⟨"DomainHouse$Reader", "readBranches", "(I)V"⟩, 20), (⟨"DomainHouse$Reader", "readGroup", "(I)V"⟩, 20), (⟨"DomainHouse$Reader", "readPlace", "()V"⟩, 20), (⟨"DomainHouse$Reader", "readRepeat", "()V"⟩, 20), (⟨"DomainHouse$Reader", "join", "(JJ)V"⟩, 20), (⟨"DomainHouse$Reader", "oneOf", "(II)I"⟩, 20), (⟨"DomainHouse$Reader", "relation", "()I"⟩, 20), (⟨"DomainHouse$Reader", "readAct", "()V"⟩, 20), (⟨"DomainHouse", "rowInHand", "(I)I"⟩, 12), (⟨"DomainHouse$Talk", "handOver", "(LDomainHouse$Tie;II)V"⟩, 13), (⟨"DomainHouse$Talk", "candidateOver", "(I)I"⟩, 13), (⟨"DomainHouse$Message", "forget", "()V"⟩, 17)]
theorem lw_r3 : ∀ q ∈ lw_privs_3, lw_okq q := List.forall_mem_cons.mpr ⟨lw_p32, List.forall_mem_cons.mpr ⟨lw_p33, List.forall_mem_cons.mpr ⟨lw_p34, List.forall_mem_cons.mpr ⟨lw_p35, List.forall_mem_cons.mpr ⟨lw_p36, List.forall_mem_cons.mpr ⟨lw_p37, List.forall_mem_cons.mpr ⟨lw_p38, List.forall_mem_cons.mpr ⟨lw_p39, List.forall_mem_cons.mpr ⟨lw_p40, List.forall_mem_cons.mpr ⟨lw_p41, List.forall_mem_cons.mpr ⟨lw_p42, List.forall_mem_cons.mpr ⟨lw_p43, List.forall_mem_cons.mpr ⟨lw_p44, List.forall_mem_cons.mpr ⟨lw_p45, List.forall_mem_cons.mpr ⟨lw_p46, List.forall_mem_cons.mpr ⟨lw_p47, fun _ h => absurd h List.not_mem_nil⟩⟩⟩⟩⟩⟩⟩⟩⟩⟩⟩⟩⟩⟩⟩⟩
theorem lw_p48 : lw_okq (⟨"DomainHouse$Message", "readParts", "(I)V"⟩, 17) := ⟨⟨by decide +kernel, by decide +kernel⟩, List.mem_of_getElem? (i := 367) (by decide +kernel), List.mem_of_getElem? (i := 1323) (by decide +kernel), List.mem_of_getElem? (i := 1324) (by decide +kernel)⟩
theorem lw_p49 : lw_okq (⟨"DomainHouse$Message", "pairAt", "(I)I"⟩, 17) := ⟨⟨by decide +kernel, by decide +kernel⟩, List.mem_of_getElem? (i := 367) (by decide +kernel), List.mem_of_getElem? (i := 1327) (by decide +kernel), List.mem_of_getElem? (i := 1328) (by decide +kernel)⟩
theorem lw_p50 : lw_okq (⟨"DomainHouse$Message", "note", "(II)V"⟩, 17) := ⟨⟨by decide +kernel, by decide +kernel⟩, List.mem_of_getElem? (i := 367) (by decide +kernel), List.mem_of_getElem? (i := 1331) (by decide +kernel), List.mem_of_getElem? (i := 1332) (by decide +kernel)⟩
theorem lw_p51 : lw_okq (⟨"DomainHouse$Message", "readPrefixes", "(III)I"⟩, 17) := ⟨⟨by decide +kernel, by decide +kernel⟩, List.mem_of_getElem? (i := 367) (by decide +kernel), List.mem_of_getElem? (i := 1335) (by decide +kernel), List.mem_of_getElem? (i := 1336) (by decide +kernel)⟩
theorem lw_p52 : lw_okq (⟨"DomainHouse$Message", "readAttributes", "(II)V"⟩, 17) := ⟨⟨by decide +kernel, by decide +kernel⟩, List.mem_of_getElem? (i := 367) (by decide +kernel), List.mem_of_getElem? (i := 1340) (by decide +kernel), List.mem_of_getElem? (i := 1341) (by decide +kernel)⟩
theorem lw_p53 : lw_okq (⟨"DomainHouse$Message", "readAttribute", "(III)V"⟩, 17) := ⟨⟨by decide +kernel, by decide +kernel⟩, List.mem_of_getElem? (i := 367) (by decide +kernel), List.mem_of_getElem? (i := 1344) (by decide +kernel), List.mem_of_getElem? (i := 1345) (by decide +kernel)⟩
theorem lw_p54 : lw_okq (⟨"DomainHouse$Message", "readOrigin", "(II)Z"⟩, 17) := ⟨⟨by decide +kernel, by decide +kernel⟩, List.mem_of_getElem? (i := 367) (by decide +kernel), List.mem_of_getElem? (i := 1348) (by decide +kernel), List.mem_of_getElem? (i := 1349) (by decide +kernel)⟩
theorem lw_p55 : lw_okq (⟨"DomainHouse$Message", "readWay", "(II)Z"⟩, 17) := ⟨⟨by decide +kernel, by decide +kernel⟩, List.mem_of_getElem? (i := 367) (by decide +kernel), List.mem_of_getElem? (i := 1352) (by decide +kernel), List.mem_of_getElem? (i := 1353) (by decide +kernel)⟩
theorem lw_p56 : lw_okq (⟨"DomainHouse$Message", "fourAt", "(I)I"⟩, 17) := ⟨⟨by decide +kernel, by decide +kernel⟩, List.mem_of_getElem? (i := 367) (by decide +kernel), List.mem_of_getElem? (i := 1356) (by decide +kernel), List.mem_of_getElem? (i := 1357) (by decide +kernel)⟩
theorem lw_p57 : lw_okq (⟨"DomainHouse$Message", "readCost", "(II)Z"⟩, 17) := ⟨⟨by decide +kernel, by decide +kernel⟩, List.mem_of_getElem? (i := 367) (by decide +kernel), List.mem_of_getElem? (i := 1364) (by decide +kernel), List.mem_of_getElem? (i := 1365) (by decide +kernel)⟩
theorem lw_p58 : lw_okq (⟨"DomainHouse$Message", "readMarks", "(II)Z"⟩, 17) := ⟨⟨by decide +kernel, by decide +kernel⟩, List.mem_of_getElem? (i := 367) (by decide +kernel), List.mem_of_getElem? (i := 1369) (by decide +kernel), List.mem_of_getElem? (i := 1370) (by decide +kernel)⟩
theorem lw_p59 : lw_okq (⟨"DomainHouse$Message", "keepMark", "(I)V"⟩, 17) := ⟨⟨by decide +kernel, by decide +kernel⟩, List.mem_of_getElem? (i := 367) (by decide +kernel), List.mem_of_getElem? (i := 1373) (by decide +kernel), List.mem_of_getElem? (i := 1374) (by decide +kernel)⟩
theorem lw_p60 : lw_okq (⟨"DomainHouse$Message", "carry", "(II)V"⟩, 17) := ⟨⟨by decide +kernel, by decide +kernel⟩, List.mem_of_getElem? (i := 367) (by decide +kernel), List.mem_of_getElem? (i := 1377) (by decide +kernel), List.mem_of_getElem? (i := 1378) (by decide +kernel)⟩
theorem lw_p61 : lw_okq (⟨"DomainHouse$Message", "placeTold", "()I"⟩, 17) := ⟨⟨by decide +kernel, by decide +kernel⟩, List.mem_of_getElem? (i := 367) (by decide +kernel), List.mem_of_getElem? (i := 1390) (by decide +kernel), List.mem_of_getElem? (i := 1391) (by decide +kernel)⟩
theorem lw_p62 : lw_okq (⟨"DomainHouse$Message", "toldInAll", "(I)I"⟩, 17) := ⟨⟨by decide +kernel, by decide +kernel⟩, List.mem_of_getElem? (i := 367) (by decide +kernel), List.mem_of_getElem? (i := 1394) (by decide +kernel), List.mem_of_getElem? (i := 1395) (by decide +kernel)⟩
theorem lw_p63 : lw_okq (⟨"DomainHouse$Message", "toldOfRow", "(I)I"⟩, 17) := ⟨⟨by decide +kernel, by decide +kernel⟩, List.mem_of_getElem? (i := 367) (by decide +kernel), List.mem_of_getElem? (i := 1398) (by decide +kernel), List.mem_of_getElem? (i := 1399) (by decide +kernel)⟩
def lw_privs_4 : List (MethodName × Nat) := [(⟨"DomainHouse$Message", "readParts", "(I)V"⟩, 17), (⟨"DomainHouse$Message", "pairAt", "(I)I"⟩, 17), (⟨"DomainHouse$Message", "note", "(II)V"⟩, 17), (⟨"DomainHouse$Message", "readPrefixes", "(III)I"⟩, 17), (⟨"DomainHouse$Message", "readAttributes", "(II)V"⟩, 17), (⟨"DomainHouse$Message", "readAttribute", "(III)V"⟩, 17), (⟨"DomainHouse$Message", "readOrigin", "(II)Z"⟩, 17), (⟨"DomainHouse$Message", "readWay", "(II)Z"⟩, 17), (⟨"DomainHouse$Message", "fourAt", "(I)I"⟩, 17), (⟨"DomainHouse$Message", "readCost", "(II)Z"⟩, 17), (⟨"DomainHouse$Message", "readMarks", "(II)Z"⟩, 17), (⟨"DomainHouse$Message", "keepMark", "(I)V"⟩, 17), (⟨"DomainHouse$Message", "carry", "(II)V"⟩, 17), (⟨"DomainHouse$Message", "placeTold", "()I"⟩, 17), (⟨"DomainHouse$Message", "toldInAll", "(I)I"⟩, 17), (⟨"DomainHouse$Message", "toldOfRow", "(I)I"⟩, 17)]
theorem lw_r4 : ∀ q ∈ lw_privs_4, lw_okq q := List.forall_mem_cons.mpr ⟨lw_p48, List.forall_mem_cons.mpr ⟨lw_p49, List.forall_mem_cons.mpr ⟨lw_p50, List.forall_mem_cons.mpr ⟨lw_p51, List.forall_mem_cons.mpr ⟨lw_p52, List.forall_mem_cons.mpr ⟨lw_p53, List.forall_mem_cons.mpr ⟨lw_p54, List.forall_mem_cons.mpr ⟨lw_p55, List.forall_mem_cons.mpr ⟨lw_p56, List.forall_mem_cons.mpr ⟨lw_p57, List.forall_mem_cons.mpr ⟨lw_p58, List.forall_mem_cons.mpr ⟨lw_p59, List.forall_mem_cons.mpr ⟨lw_p60, List.forall_mem_cons.mpr ⟨lw_p61, List.forall_mem_cons.mpr ⟨lw_p62, List.forall_mem_cons.mpr ⟨lw_p63, fun _ h => absurd h List.not_mem_nil⟩⟩⟩⟩⟩⟩⟩⟩⟩⟩⟩⟩⟩⟩⟩⟩
theorem lw_p64 : lw_okq (⟨"DomainHouse$Message", "putNumber", "(II)V"⟩, 17) := ⟨⟨by decide +kernel, by decide +kernel⟩, List.mem_of_getElem? (i := 367) (by decide +kernel), List.mem_of_getElem? (i := 1419) (by decide +kernel), List.mem_of_getElem? (i := 1420) (by decide +kernel)⟩
theorem lw_p65 : lw_okq (⟨"DomainHouse$Message", "putPrefix", "(II)V"⟩, 17) := ⟨⟨by decide +kernel, by decide +kernel⟩, List.mem_of_getElem? (i := 367) (by decide +kernel), List.mem_of_getElem? (i := 1423) (by decide +kernel), List.mem_of_getElem? (i := 1424) (by decide +kernel)⟩
theorem lw_p66 : lw_okq (⟨"DomainHouse$Message", "putAttributes", "(LDomainHouse$Route;)V"⟩, 17) := ⟨⟨by decide +kernel, by decide +kernel⟩, List.mem_of_getElem? (i := 367) (by decide +kernel), List.mem_of_getElem? (i := 1427) (by decide +kernel), List.mem_of_getElem? (i := 1428) (by decide +kernel)⟩
theorem lw_p67 : lw_okq (⟨"DomainHouse$Message", "putHead", "(III)V"⟩, 17) := ⟨⟨by decide +kernel, by decide +kernel⟩, List.mem_of_getElem? (i := 367) (by decide +kernel), List.mem_of_getElem? (i := 1431) (by decide +kernel), List.mem_of_getElem? (i := 1432) (by decide +kernel)⟩
theorem lw_p68 : lw_okq (⟨"DomainHouse$Letters", "travel", "(II)I"⟩, 11) := ⟨⟨by decide +kernel, by decide +kernel⟩, List.mem_of_getElem? (i := 436) (by decide +kernel), List.mem_of_getElem? (i := 1447) (by decide +kernel), List.mem_of_getElem? (i := 1448) (by decide +kernel)⟩
theorem lw_p69 : lw_okq (⟨"DomainHouse$Letters", "partnerFor", "(II)I"⟩, 11) := ⟨⟨by decide +kernel, by decide +kernel⟩, List.mem_of_getElem? (i := 436) (by decide +kernel), List.mem_of_getElem? (i := 1451) (by decide +kernel), List.mem_of_getElem? (i := 1452) (by decide +kernel)⟩
theorem lw_p70 : lw_okq (⟨"DomainHouse$Letters", "tieFor", "(II)I"⟩, 11) := ⟨⟨by decide +kernel, by decide +kernel⟩, List.mem_of_getElem? (i := 436) (by decide +kernel), List.mem_of_getElem? (i := 1455) (by decide +kernel), List.mem_of_getElem? (i := 1456) (by decide +kernel)⟩
theorem lw_p71 : lw_okq (⟨"DomainHouse$Letters", "leastBelow", "(III)I"⟩, 11) := ⟨⟨by decide +kernel, by decide +kernel⟩, List.mem_of_getElem? (i := 436) (by decide +kernel), List.mem_of_getElem? (i := 1499) (by decide +kernel), List.mem_of_getElem? (i := 1500) (by decide +kernel)⟩
theorem lw_p72 : lw_okq (⟨"DomainHouse$Letters", "isSplit", "(III)Z"⟩, 11) := ⟨⟨by decide +kernel, by decide +kernel⟩, List.mem_of_getElem? (i := 436) (by decide +kernel), List.mem_of_getElem? (i := 1503) (by decide +kernel), List.mem_of_getElem? (i := 1504) (by decide +kernel)⟩
theorem lw_p73 : lw_okq (⟨"DomainHouse$Letters", "layBorders", "()I"⟩, 11) := ⟨⟨by decide +kernel, by decide +kernel⟩, List.mem_of_getElem? (i := 436) (by decide +kernel), List.mem_of_getElem? (i := 1521) (by decide +kernel), List.mem_of_getElem? (i := 1522) (by decide +kernel)⟩
theorem lw_p74 : lw_okq (⟨"DomainHouse$Letters", "insertBorder", "(JI)V"⟩, 11) := ⟨⟨by decide +kernel, by decide +kernel⟩, List.mem_of_getElem? (i := 436) (by decide +kernel), List.mem_of_getElem? (i := 1526) (by decide +kernel), List.mem_of_getElem? (i := 1527) (by decide +kernel)⟩
theorem lw_p75 : lw_okq (⟨"DomainHouse$Net", "prepare", "()V"⟩, 15) := ⟨⟨by decide +kernel, by decide +kernel⟩, List.mem_of_getElem? (i := 479) (by decide +kernel), List.mem_of_getElem? (i := 1563) (by decide +kernel), List.mem_of_getElem? (i := 1564) (by decide +kernel)⟩
theorem lw_p76 : lw_okq (⟨"DomainHouse$Net", "need", "(I)V"⟩, 15) := ⟨⟨by decide +kernel, by decide +kernel⟩, List.mem_of_getElem? (i := 479) (by decide +kernel), List.mem_of_getElem? (i := 1567) (by decide +kernel), List.mem_of_getElem? (i := 1568) (by decide +kernel)⟩
theorem lw_p77 : lw_okq (⟨"DomainHouse$Net", "unfold", "(I)V"⟩, 15) := ⟨⟨by decide +kernel, by decide +kernel⟩, List.mem_of_getElem? (i := 479) (by decide +kernel), List.mem_of_getElem? (i := 1572) (by decide +kernel), List.mem_of_getElem? (i := 1573) (by decide +kernel)⟩
theorem lw_p78 : lw_okq (⟨"DomainHouse$Net", "figure", "(II)I"⟩, 15) := ⟨⟨by decide +kernel, by decide +kernel⟩, List.mem_of_getElem? (i := 479) (by decide +kernel), List.mem_of_getElem? (i := 1576) (by decide +kernel), List.mem_of_getElem? (i := 1577) (by decide +kernel)⟩
theorem lw_p79 : lw_okq (⟨"DomainHouse$Net", "isRest", "()Z"⟩, 15) := ⟨⟨by decide +kernel, by decide +kernel⟩, List.mem_of_getElem? (i := 479) (by decide +kernel), List.mem_of_getElem? (i := 1580) (by decide +kernel), List.mem_of_getElem? (i := 1581) (by decide +kernel)⟩
def lw_privs_5 : List (MethodName × Nat) := [(⟨"DomainHouse$Message", "putNumber", "(II)V"⟩, 17), (⟨"DomainHouse$Message", "putPrefix", "(II)V"⟩, 17), (⟨"DomainHouse$Message", "putAttributes", "(LDomainHouse$Route;)V"⟩, 17), (⟨"DomainHouse$Message", "putHead", "(III)V"⟩, 17), (⟨"DomainHouse$Letters", "travel", "(II)I"⟩, 11), (⟨"DomainHouse$Letters", "partnerFor", "(II)I"⟩, 11), (⟨"DomainHouse$Letters", "tieFor", "(II)I"⟩, 11), (⟨"DomainHouse$Letters", "leastBelow", "(III)I"⟩, 11), (⟨"DomainHouse$Letters", "isSplit", "(III)Z"⟩, 11), (⟨"DomainHouse$Letters", "layBorders", "()I"⟩, 11), (⟨"DomainHouse$Letters", "insertBorder", "(JI)V"⟩, 11), (⟨"DomainHouse$Net", "prepare", "()V"⟩, 15), (⟨"DomainHouse$Net", "need", "(I)V"⟩, 15), (⟨"DomainHouse$Net", "unfold", "(I)V"⟩, 15), (⟨"DomainHouse$Net", "figure", "(II)I"⟩, 15), (⟨"DomainHouse$Net", "isRest", "()Z"⟩, 15)]
theorem lw_r5 : ∀ q ∈ lw_privs_5, lw_okq q := List.forall_mem_cons.mpr ⟨lw_p64, List.forall_mem_cons.mpr ⟨lw_p65, List.forall_mem_cons.mpr ⟨lw_p66, List.forall_mem_cons.mpr ⟨lw_p67, List.forall_mem_cons.mpr ⟨lw_p68, List.forall_mem_cons.mpr ⟨lw_p69, List.forall_mem_cons.mpr ⟨lw_p70, List.forall_mem_cons.mpr ⟨lw_p71, List.forall_mem_cons.mpr ⟨lw_p72, List.forall_mem_cons.mpr ⟨lw_p73, List.forall_mem_cons.mpr ⟨lw_p74, List.forall_mem_cons.mpr ⟨lw_p75, List.forall_mem_cons.mpr ⟨lw_p76, List.forall_mem_cons.mpr ⟨lw_p77, List.forall_mem_cons.mpr ⟨lw_p78, List.forall_mem_cons.mpr ⟨lw_p79, fun _ h => absurd h List.not_mem_nil⟩⟩⟩⟩⟩⟩⟩⟩⟩⟩⟩⟩⟩⟩⟩⟩
theorem lw_p80 : lw_okq (⟨"DomainHouse$Net", "actOf", "(I)I"⟩, 15) := ⟨⟨by decide +kernel, by decide +kernel⟩, List.mem_of_getElem? (i := 479) (by decide +kernel), List.mem_of_getElem? (i := 1584) (by decide +kernel), List.mem_of_getElem? (i := 1585) (by decide +kernel)⟩
theorem lw_p81 : lw_okq (⟨"DomainHouse$Net", "keepRest", "(I)V"⟩, 15) := ⟨⟨by decide +kernel, by decide +kernel⟩, List.mem_of_getElem? (i := 479) (by decide +kernel), List.mem_of_getElem? (i := 1588) (by decide +kernel), List.mem_of_getElem? (i := 1589) (by decide +kernel)⟩
theorem lw_p82 : lw_okq (⟨"DomainHouse$Net", "countUp", "()V"⟩, 15) := ⟨⟨by decide +kernel, by decide +kernel⟩, List.mem_of_getElem? (i := 479) (by decide +kernel), List.mem_of_getElem? (i := 1593) (by decide +kernel), List.mem_of_getElem? (i := 1594) (by decide +kernel)⟩
theorem lw_p83 : lw_okq (⟨"DomainHouse$Net", "makeRoom", "()V"⟩, 15) := ⟨⟨by decide +kernel, by decide +kernel⟩, List.mem_of_getElem? (i := 479) (by decide +kernel), List.mem_of_getElem? (i := 1613) (by decide +kernel), List.mem_of_getElem? (i := 1614) (by decide +kernel)⟩
theorem lw_p84 : lw_okq (⟨"DomainHouse$Net", "spread", "()I"⟩, 15) := ⟨⟨by decide +kernel, by decide +kernel⟩, List.mem_of_getElem? (i := 479) (by decide +kernel), List.mem_of_getElem? (i := 1623) (by decide +kernel), List.mem_of_getElem? (i := 1624) (by decide +kernel)⟩
theorem lw_p85 : lw_okq (⟨"DomainHouse$Net", "addNeighbours", "(II)I"⟩, 15) := ⟨⟨by decide +kernel, by decide +kernel⟩, List.mem_of_getElem? (i := 479) (by decide +kernel), List.mem_of_getElem? (i := 1628) (by decide +kernel), List.mem_of_getElem? (i := 1629) (by decide +kernel)⟩
theorem lw_p86 : lw_okq (⟨"DomainHouse$Net", "leadBack", "()I"⟩, 15) := ⟨⟨by decide +kernel, by decide +kernel⟩, List.mem_of_getElem? (i := 479) (by decide +kernel), List.mem_of_getElem? (i := 1632) (by decide +kernel), List.mem_of_getElem? (i := 1633) (by decide +kernel)⟩
theorem lw_p87 : lw_okq (⟨"DomainHouse$Net", "addSources", "(II)I"⟩, 15) := ⟨⟨by decide +kernel, by decide +kernel⟩, List.mem_of_getElem? (i := 479) (by decide +kernel), List.mem_of_getElem? (i := 1636) (by decide +kernel), List.mem_of_getElem? (i := 1637) (by decide +kernel)⟩
theorem lw_p88 : lw_okq (⟨"DomainHouseModel", "prefixOf", "(II)I"⟩, 126) := ⟨⟨by decide +kernel, by decide +kernel⟩, List.mem_of_getElem? (i := 1664) (by decide +kernel), List.mem_of_getElem? (i := 1662) (by decide +kernel), List.mem_of_getElem? (i := 1663) (by decide +kernel)⟩
theorem lw_p89 : lw_okq (⟨"DomainHouseModel", "isDomain", "(I)Z"⟩, 126) := ⟨⟨by decide +kernel, by decide +kernel⟩, List.mem_of_getElem? (i := 1664) (by decide +kernel), List.mem_of_getElem? (i := 1676) (by decide +kernel), List.mem_of_getElem? (i := 1677) (by decide +kernel)⟩
theorem lw_p90 : lw_okq (⟨"DomainHouseModel", "tieOf", "(II)I"⟩, 126) := ⟨⟨by decide +kernel, by decide +kernel⟩, List.mem_of_getElem? (i := 1664) (by decide +kernel), List.mem_of_getElem? (i := 1680) (by decide +kernel), List.mem_of_getElem? (i := 1681) (by decide +kernel)⟩
theorem lw_p91 : lw_okq (⟨"DomainHouseModel", "isTie", "(I)Z"⟩, 126) := ⟨⟨by decide +kernel, by decide +kernel⟩, List.mem_of_getElem? (i := 1664) (by decide +kernel), List.mem_of_getElem? (i := 1688) (by decide +kernel), List.mem_of_getElem? (i := 1689) (by decide +kernel)⟩
theorem lw_p92 : lw_okq (⟨"DomainHouseModel", "provides", "(II)Z"⟩, 126) := ⟨⟨by decide +kernel, by decide +kernel⟩, List.mem_of_getElem? (i := 1664) (by decide +kernel), List.mem_of_getElem? (i := 1700) (by decide +kernel), List.mem_of_getElem? (i := 1701) (by decide +kernel)⟩
theorem lw_p93 : lw_okq (⟨"DomainHouseModel", "rethink", "()V"⟩, 126) := ⟨⟨by decide +kernel, by decide +kernel⟩, List.mem_of_getElem? (i := 1664) (by decide +kernel), List.mem_of_getElem? (i := 1716) (by decide +kernel), List.mem_of_getElem? (i := 1717) (by decide +kernel)⟩
theorem lw_p94 : lw_okq (⟨"DomainHouseModel", "lookAll", "(I)V"⟩, 126) := ⟨⟨by decide +kernel, by decide +kernel⟩, List.mem_of_getElem? (i := 1664) (by decide +kernel), List.mem_of_getElem? (i := 1720) (by decide +kernel), List.mem_of_getElem? (i := 1721) (by decide +kernel)⟩
theorem lw_p95 : lw_okq (⟨"DomainHouseModel", "look", "(II)V"⟩, 126) := ⟨⟨by decide +kernel, by decide +kernel⟩, List.mem_of_getElem? (i := 1664) (by decide +kernel), List.mem_of_getElem? (i := 1724) (by decide +kernel), List.mem_of_getElem? (i := 1725) (by decide +kernel)⟩
def lw_privs_6 : List (MethodName × Nat) := [(⟨"DomainHouse$Net", "actOf", "(I)I"⟩, 15), (⟨"DomainHouse$Net", "keepRest", "(I)V"⟩, 15), (⟨"DomainHouse$Net", "countUp", "()V"⟩, 15), (⟨"DomainHouse$Net", "makeRoom", "()V"⟩, 15), (⟨"DomainHouse$Net", "spread", "()I"⟩, 15), (⟨"DomainHouse$Net", "addNeighbours", "(II)I"⟩, 15), (⟨"DomainHouse$Net", "leadBack", "()I"⟩, 15), (⟨"DomainHouse$Net", "addSources", "(II)I"⟩, 15), (⟨"DomainHouseModel", "prefixOf", "(II)I"⟩, 126), (⟨"DomainHouseModel", "isDomain", "(I)Z"⟩, 126), (⟨"DomainHouseModel", "tieOf", "(II)I"⟩, 126), (⟨"DomainHouseModel", "isTie", "(I)Z"⟩, 126), (⟨"DomainHouseModel", "provides", "(II)Z"⟩, 126), (⟨"DomainHouseModel", "rethink", "()V"⟩, 126), (⟨"DomainHouseModel", "lookAll", "(I)V"⟩, 126), (⟨"DomainHouseModel", "look", "(II)V"⟩, 126)]
theorem lw_r6 : ∀ q ∈ lw_privs_6, lw_okq q := List.forall_mem_cons.mpr ⟨lw_p80, List.forall_mem_cons.mpr ⟨lw_p81, List.forall_mem_cons.mpr ⟨lw_p82, List.forall_mem_cons.mpr ⟨lw_p83, List.forall_mem_cons.mpr ⟨lw_p84, List.forall_mem_cons.mpr ⟨lw_p85, List.forall_mem_cons.mpr ⟨lw_p86, List.forall_mem_cons.mpr ⟨lw_p87, List.forall_mem_cons.mpr ⟨lw_p88, List.forall_mem_cons.mpr ⟨lw_p89, List.forall_mem_cons.mpr ⟨lw_p90, List.forall_mem_cons.mpr ⟨lw_p91, List.forall_mem_cons.mpr ⟨lw_p92, List.forall_mem_cons.mpr ⟨lw_p93, List.forall_mem_cons.mpr ⟨lw_p94, List.forall_mem_cons.mpr ⟨lw_p95, fun _ h => absurd h List.not_mem_nil⟩⟩⟩⟩⟩⟩⟩⟩⟩⟩⟩⟩⟩⟩⟩⟩
theorem lw_p96 : lw_okq (⟨"DomainHouseModel", "pick", "(II)I"⟩, 126) := ⟨⟨by decide +kernel, by decide +kernel⟩, List.mem_of_getElem? (i := 1664) (by decide +kernel), List.mem_of_getElem? (i := 1728) (by decide +kernel), List.mem_of_getElem? (i := 1729) (by decide +kernel)⟩
theorem lw_p97 : lw_okq (⟨"DomainHouseModel", "candidates", "(II)V"⟩, 126) := ⟨⟨by decide +kernel, by decide +kernel⟩, List.mem_of_getElem? (i := 1664) (by decide +kernel), List.mem_of_getElem? (i := 1732) (by decide +kernel), List.mem_of_getElem? (i := 1733) (by decide +kernel)⟩
theorem lw_p98 : lw_okq (⟨"DomainHouseModel", "isAt", "(II)Z"⟩, 126) := ⟨⟨by decide +kernel, by decide +kernel⟩, List.mem_of_getElem? (i := 1664) (by decide +kernel), List.mem_of_getElem? (i := 1736) (by decide +kernel), List.mem_of_getElem? (i := 1737) (by decide +kernel)⟩
theorem lw_p99 : lw_okq (⟨"DomainHouseModel", "candidate", "(III)I"⟩, 126) := ⟨⟨by decide +kernel, by decide +kernel⟩, List.mem_of_getElem? (i := 1664) (by decide +kernel), List.mem_of_getElem? (i := 1740) (by decide +kernel), List.mem_of_getElem? (i := 1741) (by decide +kernel)⟩
theorem lw_p100 : lw_okq (⟨"DomainHouseModel", "sideOf", "(II)I"⟩, 126) := ⟨⟨by decide +kernel, by decide +kernel⟩, List.mem_of_getElem? (i := 1664) (by decide +kernel), List.mem_of_getElem? (i := 1744) (by decide +kernel), List.mem_of_getElem? (i := 1745) (by decide +kernel)⟩
theorem lw_p101 : lw_okq (⟨"DomainHouseModel", "nothing", "(I)V"⟩, 126) := ⟨⟨by decide +kernel, by decide +kernel⟩, List.mem_of_getElem? (i := 1664) (by decide +kernel), List.mem_of_getElem? (i := 1748) (by decide +kernel), List.mem_of_getElem? (i := 1749) (by decide +kernel)⟩
theorem lw_p102 : lw_okq (⟨"DomainHouseModel", "isThere", "(I)Z"⟩, 126) := ⟨⟨by decide +kernel, by decide +kernel⟩, List.mem_of_getElem? (i := 1664) (by decide +kernel), List.mem_of_getElem? (i := 1755) (by decide +kernel), List.mem_of_getElem? (i := 1756) (by decide +kernel)⟩
theorem lw_p103 : lw_okq (⟨"DomainHouseModel", "isIn", "(II)Z"⟩, 126) := ⟨⟨by decide +kernel, by decide +kernel⟩, List.mem_of_getElem? (i := 1664) (by decide +kernel), List.mem_of_getElem? (i := 1759) (by decide +kernel), List.mem_of_getElem? (i := 1760) (by decide +kernel)⟩
theorem lw_p104 : lw_okq (⟨"DomainHouseModel", "copy", "(II)V"⟩, 126) := ⟨⟨by decide +kernel, by decide +kernel⟩, List.mem_of_getElem? (i := 1664) (by decide +kernel), List.mem_of_getElem? (i := 1763) (by decide +kernel), List.mem_of_getElem? (i := 1764) (by decide +kernel)⟩
theorem lw_p105 : lw_okq (⟨"DomainHouseModel", "partnerOf", "(II)I"⟩, 126) := ⟨⟨by decide +kernel, by decide +kernel⟩, List.mem_of_getElem? (i := 1664) (by decide +kernel), List.mem_of_getElem? (i := 1767) (by decide +kernel), List.mem_of_getElem? (i := 1768) (by decide +kernel)⟩
theorem lw_p106 : lw_okq (⟨"DomainHouseModel", "through", "(IIII)Z"⟩, 126) := ⟨⟨by decide +kernel, by decide +kernel⟩, List.mem_of_getElem? (i := 1664) (by decide +kernel), List.mem_of_getElem? (i := 1771) (by decide +kernel), List.mem_of_getElem? (i := 1772) (by decide +kernel)⟩
theorem lw_p107 : lw_okq (⟨"DomainHouseModel", "isSo", "(IIIII)Z"⟩, 126) := ⟨⟨by decide +kernel, by decide +kernel⟩, List.mem_of_getElem? (i := 1664) (by decide +kernel), List.mem_of_getElem? (i := 1775) (by decide +kernel), List.mem_of_getElem? (i := 1776) (by decide +kernel)⟩
theorem lw_p108 : lw_okq (⟨"DomainHouseModel", "waysMatch", "(III)Z"⟩, 126) := ⟨⟨by decide +kernel, by decide +kernel⟩, List.mem_of_getElem? (i := 1664) (by decide +kernel), List.mem_of_getElem? (i := 1782) (by decide +kernel), List.mem_of_getElem? (i := 1783) (by decide +kernel)⟩
theorem lw_p109 : lw_okq (⟨"DomainHouseModel", "marked", "(II)Z"⟩, 126) := ⟨⟨by decide +kernel, by decide +kernel⟩, List.mem_of_getElem? (i := 1664) (by decide +kernel), List.mem_of_getElem? (i := 1786) (by decide +kernel), List.mem_of_getElem? (i := 1787) (by decide +kernel)⟩
theorem lw_p110 : lw_okq (⟨"DomainHouseModel", "tieWord", "(II)I"⟩, 126) := ⟨⟨by decide +kernel, by decide +kernel⟩, List.mem_of_getElem? (i := 1664) (by decide +kernel), List.mem_of_getElem? (i := 1790) (by decide +kernel), List.mem_of_getElem? (i := 1791) (by decide +kernel)⟩
theorem lw_p111 : lw_okq (⟨"DomainHouseModel", "related", "(III)Z"⟩, 126) := ⟨⟨by decide +kernel, by decide +kernel⟩, List.mem_of_getElem? (i := 1664) (by decide +kernel), List.mem_of_getElem? (i := 1794) (by decide +kernel), List.mem_of_getElem? (i := 1795) (by decide +kernel)⟩
def lw_privs_7 : List (MethodName × Nat) := [(⟨"DomainHouseModel", "pick", "(II)I"⟩, 126), (⟨"DomainHouseModel", "candidates", "(II)V"⟩, 126), (⟨"DomainHouseModel", "isAt", "(II)Z"⟩, 126), (⟨"DomainHouseModel", "candidate", "(III)I"⟩, 126), (⟨"DomainHouseModel", "sideOf", "(II)I"⟩, 126), (⟨"DomainHouseModel", "nothing", "(I)V"⟩, 126), (⟨"DomainHouseModel", "isThere", "(I)Z"⟩, 126), (⟨"DomainHouseModel", "isIn", "(II)Z"⟩, 126), (⟨"DomainHouseModel", "copy", "(II)V"⟩, 126), (⟨"DomainHouseModel", "partnerOf", "(II)I"⟩, 126), (⟨"DomainHouseModel", "through", "(IIII)Z"⟩, 126), (⟨"DomainHouseModel", "isSo", "(IIIII)Z"⟩, 126), (⟨"DomainHouseModel", "waysMatch", "(III)Z"⟩, 126), (⟨"DomainHouseModel", "marked", "(II)Z"⟩, 126), (⟨"DomainHouseModel", "tieWord", "(II)I"⟩, 126), (⟨"DomainHouseModel", "related", "(III)Z"⟩, 126)]
theorem lw_r7 : ∀ q ∈ lw_privs_7, lw_okq q := List.forall_mem_cons.mpr ⟨lw_p96, List.forall_mem_cons.mpr ⟨lw_p97, List.forall_mem_cons.mpr ⟨lw_p98, List.forall_mem_cons.mpr ⟨lw_p99, List.forall_mem_cons.mpr ⟨lw_p100, List.forall_mem_cons.mpr ⟨lw_p101, List.forall_mem_cons.mpr ⟨lw_p102, List.forall_mem_cons.mpr ⟨lw_p103, List.forall_mem_cons.mpr ⟨lw_p104, List.forall_mem_cons.mpr ⟨lw_p105, List.forall_mem_cons.mpr ⟨lw_p106, List.forall_mem_cons.mpr ⟨lw_p107, List.forall_mem_cons.mpr ⟨lw_p108, List.forall_mem_cons.mpr ⟨lw_p109, List.forall_mem_cons.mpr ⟨lw_p110, List.forall_mem_cons.mpr ⟨lw_p111, fun _ h => absurd h List.not_mem_nil⟩⟩⟩⟩⟩⟩⟩⟩⟩⟩⟩⟩⟩⟩⟩⟩
theorem lw_p112 : lw_okq (⟨"DomainHouseModel", "judged", "(IIII)I"⟩, 126) := ⟨⟨by decide +kernel, by decide +kernel⟩, List.mem_of_getElem? (i := 1664) (by decide +kernel), List.mem_of_getElem? (i := 1798) (by decide +kernel), List.mem_of_getElem? (i := 1799) (by decide +kernel)⟩
theorem lw_p113 : lw_okq (⟨"DomainHouseModel", "judgedAnew", "(IIII)I"⟩, 126) := ⟨⟨by decide +kernel, by decide +kernel⟩, List.mem_of_getElem? (i := 1664) (by decide +kernel), List.mem_of_getElem? (i := 1802) (by decide +kernel), List.mem_of_getElem? (i := 1803) (by decide +kernel)⟩
theorem lw_p114 : lw_okq (⟨"DomainHouseModel", "addMark", "(II)V"⟩, 126) := ⟨⟨by decide +kernel, by decide +kernel⟩, List.mem_of_getElem? (i := 1664) (by decide +kernel), List.mem_of_getElem? (i := 1806) (by decide +kernel), List.mem_of_getElem? (i := 1807) (by decide +kernel)⟩
theorem lw_p115 : lw_okq (⟨"DomainHouseModel", "dropMark", "(II)V"⟩, 126) := ⟨⟨by decide +kernel, by decide +kernel⟩, List.mem_of_getElem? (i := 1664) (by decide +kernel), List.mem_of_getElem? (i := 1810) (by decide +kernel), List.mem_of_getElem? (i := 1811) (by decide +kernel)⟩
theorem lw_p116 : lw_okq (⟨"DomainHouseModel", "front", "(II)Z"⟩, 126) := ⟨⟨by decide +kernel, by decide +kernel⟩, List.mem_of_getElem? (i := 1664) (by decide +kernel), List.mem_of_getElem? (i := 1814) (by decide +kernel), List.mem_of_getElem? (i := 1815) (by decide +kernel)⟩
theorem lw_p117 : lw_okq (⟨"DomainHouseModel", "best", "(II)I"⟩, 126) := ⟨⟨by decide +kernel, by decide +kernel⟩, List.mem_of_getElem? (i := 1664) (by decide +kernel), List.mem_of_getElem? (i := 1818) (by decide +kernel), List.mem_of_getElem? (i := 1819) (by decide +kernel)⟩
theorem lw_p118 : lw_okq (⟨"DomainHouseModel", "beats", "(IIII)Z"⟩, 126) := ⟨⟨by decide +kernel, by decide +kernel⟩, List.mem_of_getElem? (i := 1664) (by decide +kernel), List.mem_of_getElem? (i := 1822) (by decide +kernel), List.mem_of_getElem? (i := 1823) (by decide +kernel)⟩
theorem lw_p119 : lw_okq (⟨"DomainHouseModel", "unlike", "(IIIIII)I"⟩, 126) := ⟨⟨by decide +kernel, by decide +kernel⟩, List.mem_of_getElem? (i := 1664) (by decide +kernel), List.mem_of_getElem? (i := 1826) (by decide +kernel), List.mem_of_getElem? (i := 1827) (by decide +kernel)⟩
theorem lw_p120 : lw_okq (⟨"DomainHouseModel", "same", "(II)Z"⟩, 126) := ⟨⟨by decide +kernel, by decide +kernel⟩, List.mem_of_getElem? (i := 1664) (by decide +kernel), List.mem_of_getElem? (i := 1834) (by decide +kernel), List.mem_of_getElem? (i := 1835) (by decide +kernel)⟩
theorem lw_p121 : lw_okq (⟨"DomainHouseModel", "say", "(III)V"⟩, 126) := ⟨⟨by decide +kernel, by decide +kernel⟩, List.mem_of_getElem? (i := 1664) (by decide +kernel), List.mem_of_getElem? (i := 1838) (by decide +kernel), List.mem_of_getElem? (i := 1839) (by decide +kernel)⟩
theorem lw_p122 : lw_okq (⟨"DomainHouseModel", "sayAll", "(II)V"⟩, 126) := ⟨⟨by decide +kernel, by decide +kernel⟩, List.mem_of_getElem? (i := 1664) (by decide +kernel), List.mem_of_getElem? (i := 1842) (by decide +kernel), List.mem_of_getElem? (i := 1843) (by decide +kernel)⟩
theorem lw_p123 : lw_okq (⟨"DomainHouseModel", "isPrefix", "(I)Z"⟩, 126) := ⟨⟨by decide +kernel, by decide +kernel⟩, List.mem_of_getElem? (i := 1664) (by decide +kernel), List.mem_of_getElem? (i := 1850) (by decide +kernel), List.mem_of_getElem? (i := 1851) (by decide +kernel)⟩
theorem lw_p124 : lw_okq (⟨"DomainHouseModel", "next", "()V"⟩, 126) := ⟨⟨by decide +kernel, by decide +kernel⟩, List.mem_of_getElem? (i := 1664) (by decide +kernel), List.mem_of_getElem? (i := 1866) (by decide +kernel), List.mem_of_getElem? (i := 1867) (by decide +kernel)⟩
theorem lw_p125 : lw_okq (⟨"DomainHouseModel", "byteAt", "(I)I"⟩, 126) := ⟨⟨by decide +kernel, by decide +kernel⟩, List.mem_of_getElem? (i := 1664) (by decide +kernel), List.mem_of_getElem? (i := 1870) (by decide +kernel), List.mem_of_getElem? (i := 1871) (by decide +kernel)⟩
theorem lw_p126 : lw_okq (⟨"DomainHouseModel", "wrong", "(I)V"⟩, 126) := ⟨⟨by decide +kernel, by decide +kernel⟩, List.mem_of_getElem? (i := 1664) (by decide +kernel), List.mem_of_getElem? (i := 1906) (by decide +kernel), List.mem_of_getElem? (i := 1907) (by decide +kernel)⟩
theorem lw_p127 : lw_okq (⟨"DomainHouseModel", "rowRead", "()V"⟩, 126) := ⟨⟨by decide +kernel, by decide +kernel⟩, List.mem_of_getElem? (i := 1664) (by decide +kernel), List.mem_of_getElem? (i := 1910) (by decide +kernel), List.mem_of_getElem? (i := 1911) (by decide +kernel)⟩
def lw_privs_8 : List (MethodName × Nat) := [(⟨"DomainHouseModel", "judged", "(IIII)I"⟩, 126), (⟨"DomainHouseModel", "judgedAnew", "(IIII)I"⟩, 126), (⟨"DomainHouseModel", "addMark", "(II)V"⟩, 126), (⟨"DomainHouseModel", "dropMark", "(II)V"⟩, 126), (⟨"DomainHouseModel", "front", "(II)Z"⟩, 126), (⟨"DomainHouseModel", "best", "(II)I"⟩, 126), (⟨"DomainHouseModel", "beats", "(IIII)Z"⟩, 126), (⟨"DomainHouseModel", "unlike", "(IIIIII)I"⟩, 126), (⟨"DomainHouseModel", "same", "(II)Z"⟩, 126), (⟨"DomainHouseModel", "say", "(III)V"⟩, 126), (⟨"DomainHouseModel", "sayAll", "(II)V"⟩, 126), (⟨"DomainHouseModel", "isPrefix", "(I)Z"⟩, 126), (⟨"DomainHouseModel", "next", "()V"⟩, 126), (⟨"DomainHouseModel", "byteAt", "(I)I"⟩, 126), (⟨"DomainHouseModel", "wrong", "(I)V"⟩, 126), (⟨"DomainHouseModel", "rowRead", "()V"⟩, 126)]
theorem lw_r8 : ∀ q ∈ lw_privs_8, lw_okq q := List.forall_mem_cons.mpr ⟨lw_p112, List.forall_mem_cons.mpr ⟨lw_p113, List.forall_mem_cons.mpr ⟨lw_p114, List.forall_mem_cons.mpr ⟨lw_p115, List.forall_mem_cons.mpr ⟨lw_p116, List.forall_mem_cons.mpr ⟨lw_p117, List.forall_mem_cons.mpr ⟨lw_p118, List.forall_mem_cons.mpr ⟨lw_p119, List.forall_mem_cons.mpr ⟨lw_p120, List.forall_mem_cons.mpr ⟨lw_p121, List.forall_mem_cons.mpr ⟨lw_p122, List.forall_mem_cons.mpr ⟨lw_p123, List.forall_mem_cons.mpr ⟨lw_p124, List.forall_mem_cons.mpr ⟨lw_p125, List.forall_mem_cons.mpr ⟨lw_p126, List.forall_mem_cons.mpr ⟨lw_p127, fun _ h => absurd h List.not_mem_nil⟩⟩⟩⟩⟩⟩⟩⟩⟩⟩⟩⟩⟩⟩⟩⟩
theorem lw_p128 : lw_okq (⟨"DomainHouseModel", "isWord", "(I)Z"⟩, 126) := ⟨⟨by decide +kernel, by decide +kernel⟩, List.mem_of_getElem? (i := 1664) (by decide +kernel), List.mem_of_getElem? (i := 1914) (by decide +kernel), List.mem_of_getElem? (i := 1915) (by decide +kernel)⟩
theorem lw_p129 : lw_okq (⟨"DomainHouseModel", "test", "()V"⟩, 126) := ⟨⟨by decide +kernel, by decide +kernel⟩, List.mem_of_getElem? (i := 1664) (by decide +kernel), List.mem_of_getElem? (i := 1918) (by decide +kernel), List.mem_of_getElem? (i := 1919) (by decide +kernel)⟩
theorem lw_p130 : lw_okq (⟨"DomainHouseModel", "addressRead", "()I"⟩, 126) := ⟨⟨by decide +kernel, by decide +kernel⟩, List.mem_of_getElem? (i := 1664) (by decide +kernel), List.mem_of_getElem? (i := 1922) (by decide +kernel), List.mem_of_getElem? (i := 1923) (by decide +kernel)⟩
theorem lw_p131 : lw_okq (⟨"DomainHouseModel", "within", "(II)I"⟩, 126) := ⟨⟨by decide +kernel, by decide +kernel⟩, List.mem_of_getElem? (i := 1664) (by decide +kernel), List.mem_of_getElem? (i := 1926) (by decide +kernel), List.mem_of_getElem? (i := 1927) (by decide +kernel)⟩
theorem lw_p132 : lw_okq (⟨"DomainHouseModel", "sign", "(I)V"⟩, 126) := ⟨⟨by decide +kernel, by decide +kernel⟩, List.mem_of_getElem? (i := 1664) (by decide +kernel), List.mem_of_getElem? (i := 1930) (by decide +kernel), List.mem_of_getElem? (i := 1931) (by decide +kernel)⟩
theorem lw_p133 : lw_okq (⟨"DomainHouseModel", "isSign", "(I)Z"⟩, 126) := ⟨⟨by decide +kernel, by decide +kernel⟩, List.mem_of_getElem? (i := 1664) (by decide +kernel), List.mem_of_getElem? (i := 1934) (by decide +kernel), List.mem_of_getElem? (i := 1935) (by decide +kernel)⟩
theorem lw_p134 : lw_okq (⟨"DomainHouseModel", "wayTest", "(I)V"⟩, 126) := ⟨⟨by decide +kernel, by decide +kernel⟩, List.mem_of_getElem? (i := 1664) (by decide +kernel), List.mem_of_getElem? (i := 1938) (by decide +kernel), List.mem_of_getElem? (i := 1939) (by decide +kernel)⟩
theorem lw_p135 : lw_okq (⟨"DomainHouseModel", "openLevel", "()V"⟩, 126) := ⟨⟨by decide +kernel, by decide +kernel⟩, List.mem_of_getElem? (i := 1664) (by decide +kernel), List.mem_of_getElem? (i := 1942) (by decide +kernel), List.mem_of_getElem? (i := 1943) (by decide +kernel)⟩
theorem lw_p136 : lw_okq (⟨"DomainHouseModel", "freshRow", "()V"⟩, 126) := ⟨⟨by decide +kernel, by decide +kernel⟩, List.mem_of_getElem? (i := 1664) (by decide +kernel), List.mem_of_getElem? (i := 1946) (by decide +kernel), List.mem_of_getElem? (i := 1947) (by decide +kernel)⟩
theorem lw_p137 : lw_okq (⟨"DomainHouseModel", "piece", "(JJZ)V"⟩, 126) := ⟨⟨by decide +kernel, by decide +kernel⟩, List.mem_of_getElem? (i := 1664) (by decide +kernel), List.mem_of_getElem? (i := 1951) (by decide +kernel), List.mem_of_getElem? (i := 1952) (by decide +kernel)⟩
theorem lw_p138 : lw_okq (⟨"DomainHouseModel", "follows", "(JJ)V"⟩, 126) := ⟨⟨by decide +kernel, by decide +kernel⟩, List.mem_of_getElem? (i := 1664) (by decide +kernel), List.mem_of_getElem? (i := 1955) (by decide +kernel), List.mem_of_getElem? (i := 1956) (by decide +kernel)⟩
theorem lw_p139 : lw_okq (⟨"DomainHouseModel", "endRow", "()V"⟩, 126) := ⟨⟨by decide +kernel, by decide +kernel⟩, List.mem_of_getElem? (i := 1664) (by decide +kernel), List.mem_of_getElem? (i := 1959) (by decide +kernel), List.mem_of_getElem? (i := 1960) (by decide +kernel)⟩
theorem lw_p140 : lw_okq (⟨"DomainHouseModel", "actRead", "()V"⟩, 126) := ⟨⟨by decide +kernel, by decide +kernel⟩, List.mem_of_getElem? (i := 1664) (by decide +kernel), List.mem_of_getElem? (i := 1964) (by decide +kernel), List.mem_of_getElem? (i := 1965) (by decide +kernel)⟩
theorem lw_p141 : lw_okq (⟨"DomainHouseModel", "nextEvent", "()I"⟩, 126) := ⟨⟨by decide +kernel, by decide +kernel⟩, List.mem_of_getElem? (i := 1664) (by decide +kernel), List.mem_of_getElem? (i := 2395) (by decide +kernel), List.mem_of_getElem? (i := 2396) (by decide +kernel)⟩
theorem lw_p142 : lw_okq (⟨"DomainHouseModel", "doEvent", "(I)V"⟩, 126) := ⟨⟨by decide +kernel, by decide +kernel⟩, List.mem_of_getElem? (i := 1664) (by decide +kernel), List.mem_of_getElem? (i := 2400) (by decide +kernel), List.mem_of_getElem? (i := 2401) (by decide +kernel)⟩
theorem lw_p143 : lw_okq (⟨"DomainHouseModel", "eventAt", "(I)I"⟩, 126) := ⟨⟨by decide +kernel, by decide +kernel⟩, List.mem_of_getElem? (i := 1664) (by decide +kernel), List.mem_of_getElem? (i := 2404) (by decide +kernel), List.mem_of_getElem? (i := 2405) (by decide +kernel)⟩
def lw_privs_9 : List (MethodName × Nat) := [(⟨"DomainHouseModel", "isWord", "(I)Z"⟩, 126), (⟨"DomainHouseModel", "test", "()V"⟩, 126), (⟨"DomainHouseModel", "addressRead", "()I"⟩, 126), (⟨"DomainHouseModel", "within", "(II)I"⟩, 126), (⟨"DomainHouseModel", "sign", "(I)V"⟩, 126), (⟨"DomainHouseModel", "isSign", "(I)Z"⟩, 126), (⟨"DomainHouseModel", "wayTest", "(I)V"⟩, 126), (⟨"DomainHouseModel", "openLevel", "()V"⟩, 126), (⟨"DomainHouseModel", "freshRow", "()V"⟩, 126), (⟨"DomainHouseModel", "piece", "(JJZ)V"⟩, 126), (⟨"DomainHouseModel", "follows", "(JJ)V"⟩, 126), (⟨"DomainHouseModel", "endRow", "()V"⟩, 126), (⟨"DomainHouseModel", "actRead", "()V"⟩, 126), (⟨"DomainHouseModel", "nextEvent", "()I"⟩, 126), (⟨"DomainHouseModel", "doEvent", "(I)V"⟩, 126), (⟨"DomainHouseModel", "eventAt", "(I)I"⟩, 126)]
theorem lw_r9 : ∀ q ∈ lw_privs_9, lw_okq q := List.forall_mem_cons.mpr ⟨lw_p128, List.forall_mem_cons.mpr ⟨lw_p129, List.forall_mem_cons.mpr ⟨lw_p130, List.forall_mem_cons.mpr ⟨lw_p131, List.forall_mem_cons.mpr ⟨lw_p132, List.forall_mem_cons.mpr ⟨lw_p133, List.forall_mem_cons.mpr ⟨lw_p134, List.forall_mem_cons.mpr ⟨lw_p135, List.forall_mem_cons.mpr ⟨lw_p136, List.forall_mem_cons.mpr ⟨lw_p137, List.forall_mem_cons.mpr ⟨lw_p138, List.forall_mem_cons.mpr ⟨lw_p139, List.forall_mem_cons.mpr ⟨lw_p140, List.forall_mem_cons.mpr ⟨lw_p141, List.forall_mem_cons.mpr ⟨lw_p142, List.forall_mem_cons.mpr ⟨lw_p143, fun _ h => absurd h List.not_mem_nil⟩⟩⟩⟩⟩⟩⟩⟩⟩⟩⟩⟩⟩⟩⟩⟩
theorem lw_p144 : lw_okq (⟨"DomainHouseModel", "number", "(II)I"⟩, 126) := ⟨⟨by decide +kernel, by decide +kernel⟩, List.mem_of_getElem? (i := 1664) (by decide +kernel), List.mem_of_getElem? (i := 2433) (by decide +kernel), List.mem_of_getElem? (i := 2434) (by decide +kernel)⟩
theorem lw_p145 : lw_okq (⟨"DomainHouseModel", "fails", "(II)V"⟩, 126) := ⟨⟨by decide +kernel, by decide +kernel⟩, List.mem_of_getElem? (i := 1664) (by decide +kernel), List.mem_of_getElem? (i := 2437) (by decide +kernel), List.mem_of_getElem? (i := 2438) (by decide +kernel)⟩
theorem lw_p146 : lw_okq (⟨"DomainHouseModel", "partOf", "(IIZ)Z"⟩, 126) := ⟨⟨by decide +kernel, by decide +kernel⟩, List.mem_of_getElem? (i := 1664) (by decide +kernel), List.mem_of_getElem? (i := 2441) (by decide +kernel), List.mem_of_getElem? (i := 2442) (by decide +kernel)⟩
theorem lw_p147 : lw_okq (⟨"DomainHouseModel", "attributes", "(II)V"⟩, 126) := ⟨⟨by decide +kernel, by decide +kernel⟩, List.mem_of_getElem? (i := 1664) (by decide +kernel), List.mem_of_getElem? (i := 2445) (by decide +kernel), List.mem_of_getElem? (i := 2446) (by decide +kernel)⟩
theorem lw_p148 : lw_okq (⟨"DomainHouseModel", "originRight", "(II)Z"⟩, 126) := ⟨⟨by decide +kernel, by decide +kernel⟩, List.mem_of_getElem? (i := 1664) (by decide +kernel), List.mem_of_getElem? (i := 2449) (by decide +kernel), List.mem_of_getElem? (i := 2450) (by decide +kernel)⟩
theorem lw_p149 : lw_okq (⟨"DomainHouseModel", "wayRight", "(II)Z"⟩, 126) := ⟨⟨by decide +kernel, by decide +kernel⟩, List.mem_of_getElem? (i := 1664) (by decide +kernel), List.mem_of_getElem? (i := 2453) (by decide +kernel), List.mem_of_getElem? (i := 2454) (by decide +kernel)⟩
theorem lw_p150 : lw_okq (⟨"DomainHouseModel", "costRight", "(II)Z"⟩, 126) := ⟨⟨by decide +kernel, by decide +kernel⟩, List.mem_of_getElem? (i := 1664) (by decide +kernel), List.mem_of_getElem? (i := 2457) (by decide +kernel), List.mem_of_getElem? (i := 2458) (by decide +kernel)⟩
theorem lw_p151 : lw_okq (⟨"DomainHouseModel", "marksRight", "(II)Z"⟩, 126) := ⟨⟨by decide +kernel, by decide +kernel⟩, List.mem_of_getElem? (i := 1664) (by decide +kernel), List.mem_of_getElem? (i := 2461) (by decide +kernel), List.mem_of_getElem? (i := 2462) (by decide +kernel)⟩
theorem lw_p152 : lw_okq (⟨"DomainHouseModel", "octet1", "(I)V"⟩, 126) := ⟨⟨by decide +kernel, by decide +kernel⟩, List.mem_of_getElem? (i := 1664) (by decide +kernel), List.mem_of_getElem? (i := 2477) (by decide +kernel), List.mem_of_getElem? (i := 2478) (by decide +kernel)⟩
theorem lw_p153 : lw_okq (⟨"DomainHouseModel", "prefixOut", "(I)V"⟩, 126) := ⟨⟨by decide +kernel, by decide +kernel⟩, List.mem_of_getElem? (i := 1664) (by decide +kernel), List.mem_of_getElem? (i := 2481) (by decide +kernel), List.mem_of_getElem? (i := 2482) (by decide +kernel)⟩
theorem lw_p154 : lw_okq (⟨"DomainHouseModel", "octet4", "(I)V"⟩, 126) := ⟨⟨by decide +kernel, by decide +kernel⟩, List.mem_of_getElem? (i := 1664) (by decide +kernel), List.mem_of_getElem? (i := 2485) (by decide +kernel), List.mem_of_getElem? (i := 2486) (by decide +kernel)⟩
theorem lw_p155 : lw_okq (⟨"DomainHouseModel", "goes", "(II)I"⟩, 126) := ⟨⟨by decide +kernel, by decide +kernel⟩, List.mem_of_getElem? (i := 1664) (by decide +kernel), List.mem_of_getElem? (i := 2497) (by decide +kernel), List.mem_of_getElem? (i := 2498) (by decide +kernel)⟩
theorem lw_p156 : lw_okq (⟨"DomainHouseModel", "sends", "(II)I"⟩, 126) := ⟨⟨by decide +kernel, by decide +kernel⟩, List.mem_of_getElem? (i := 1664) (by decide +kernel), List.mem_of_getElem? (i := 2501) (by decide +kernel), List.mem_of_getElem? (i := 2502) (by decide +kernel)⟩
theorem lw_p157 : lw_okq (⟨"DomainHouseModel", "nodeOf", "(II)I"⟩, 126) := ⟨⟨by decide +kernel, by decide +kernel⟩, List.mem_of_getElem? (i := 1664) (by decide +kernel), List.mem_of_getElem? (i := 2525) (by decide +kernel), List.mem_of_getElem? (i := 2526) (by decide +kernel)⟩
theorem lw_p158 : lw_okq (⟨"DomainHouseModel", "costOf", "(IIII)I"⟩, 126) := ⟨⟨by decide +kernel, by decide +kernel⟩, List.mem_of_getElem? (i := 1664) (by decide +kernel), List.mem_of_getElem? (i := 2529) (by decide +kernel), List.mem_of_getElem? (i := 2530) (by decide +kernel)⟩
theorem lw_p159 : lw_okq (⟨"DomainHouseModel", "isWished", "(II)Z"⟩, 126) := ⟨⟨by decide +kernel, by decide +kernel⟩, List.mem_of_getElem? (i := 1664) (by decide +kernel), List.mem_of_getElem? (i := 2551) (by decide +kernel), List.mem_of_getElem? (i := 2552) (by decide +kernel)⟩
def lw_privs_10 : List (MethodName × Nat) := [(⟨"DomainHouseModel", "number", "(II)I"⟩, 126), (⟨"DomainHouseModel", "fails", "(II)V"⟩, 126), (⟨"DomainHouseModel", "partOf", "(IIZ)Z"⟩, 126), (⟨"DomainHouseModel", "attributes", "(II)V"⟩, 126), (⟨"DomainHouseModel", "originRight", "(II)Z"⟩, 126), (⟨"DomainHouseModel", "wayRight", "(II)Z"⟩, 126), (⟨"DomainHouseModel", "costRight", "(II)Z"⟩, 126), (⟨"DomainHouseModel", "marksRight", "(II)Z"⟩, 126), (⟨"DomainHouseModel", "octet1", "(I)V"⟩, 126), (⟨"DomainHouseModel", "prefixOut", "(I)V"⟩, 126), (⟨"DomainHouseModel", "octet4", "(I)V"⟩, 126), (⟨"DomainHouseModel", "goes", "(II)I"⟩, 126), (⟨"DomainHouseModel", "sends", "(II)I"⟩, 126), (⟨"DomainHouseModel", "nodeOf", "(II)I"⟩, 126), (⟨"DomainHouseModel", "costOf", "(IIII)I"⟩, 126), (⟨"DomainHouseModel", "isWished", "(II)Z"⟩, 126)]
theorem lw_r10 : ∀ q ∈ lw_privs_10, lw_okq q := List.forall_mem_cons.mpr ⟨lw_p144, List.forall_mem_cons.mpr ⟨lw_p145, List.forall_mem_cons.mpr ⟨lw_p146, List.forall_mem_cons.mpr ⟨lw_p147, List.forall_mem_cons.mpr ⟨lw_p148, List.forall_mem_cons.mpr ⟨lw_p149, List.forall_mem_cons.mpr ⟨lw_p150, List.forall_mem_cons.mpr ⟨lw_p151, List.forall_mem_cons.mpr ⟨lw_p152, List.forall_mem_cons.mpr ⟨lw_p153, List.forall_mem_cons.mpr ⟨lw_p154, List.forall_mem_cons.mpr ⟨lw_p155, List.forall_mem_cons.mpr ⟨lw_p156, List.forall_mem_cons.mpr ⟨lw_p157, List.forall_mem_cons.mpr ⟨lw_p158, List.forall_mem_cons.mpr ⟨lw_p159, fun _ h => absurd h List.not_mem_nil⟩⟩⟩⟩⟩⟩⟩⟩⟩⟩⟩⟩⟩⟩⟩⟩
theorem lw_p160 : lw_okq (⟨"DomainHouseModel", "states", "()I"⟩, 126) := ⟨⟨by decide +kernel, by decide +kernel⟩, List.mem_of_getElem? (i := 1664) (by decide +kernel), List.mem_of_getElem? (i := 2559) (by decide +kernel), List.mem_of_getElem? (i := 2560) (by decide +kernel)⟩
theorem lw_p161 : lw_okq (⟨"DomainHouseModel", "isRest", "(I)Z"⟩, 126) := ⟨⟨by decide +kernel, by decide +kernel⟩, List.mem_of_getElem? (i := 1664) (by decide +kernel), List.mem_of_getElem? (i := 2563) (by decide +kernel), List.mem_of_getElem? (i := 2564) (by decide +kernel)⟩
theorem lw_p162 : lw_okq (⟨"DomainHouseModel", "open", "(I)V"⟩, 126) := ⟨⟨by decide +kernel, by decide +kernel⟩, List.mem_of_getElem? (i := 1664) (by decide +kernel), List.mem_of_getElem? (i := 2567) (by decide +kernel), List.mem_of_getElem? (i := 2568) (by decide +kernel)⟩
theorem lw_p163 : lw_okq (⟨"DomainHouseModel", "acted", "(I)I"⟩, 126) := ⟨⟨by decide +kernel, by decide +kernel⟩, List.mem_of_getElem? (i := 1664) (by decide +kernel), List.mem_of_getElem? (i := 2571) (by decide +kernel), List.mem_of_getElem? (i := 2572) (by decide +kernel)⟩
theorem lw_p164 : lw_okq (⟨"DomainHouseModel", "isOffered", "(I)Z"⟩, 126) := ⟨⟨by decide +kernel, by decide +kernel⟩, List.mem_of_getElem? (i := 1664) (by decide +kernel), List.mem_of_getElem? (i := 2575) (by decide +kernel), List.mem_of_getElem? (i := 2576) (by decide +kernel)⟩
def lw_privs_11 : List (MethodName × Nat) := [(⟨"DomainHouseModel", "states", "()I"⟩, 126), (⟨"DomainHouseModel", "isRest", "(I)Z"⟩, 126), (⟨"DomainHouseModel", "open", "(I)V"⟩, 126), (⟨"DomainHouseModel", "acted", "(I)I"⟩, 126), (⟨"DomainHouseModel", "isOffered", "(I)Z"⟩, 126)]
theorem lw_r11 : ∀ q ∈ lw_privs_11, lw_okq q := List.forall_mem_cons.mpr ⟨lw_p160, List.forall_mem_cons.mpr ⟨lw_p161, List.forall_mem_cons.mpr ⟨lw_p162, List.forall_mem_cons.mpr ⟨lw_p163, List.forall_mem_cons.mpr ⟨lw_p164, fun _ h => absurd h List.not_mem_nil⟩⟩⟩⟩⟩
def lw_privs : List (MethodName × Nat) := lw_privs_1 ++ (lw_privs_2 ++ (lw_privs_3 ++ (lw_privs_4 ++ (lw_privs_5 ++ (lw_privs_6 ++ (lw_privs_7 ++ (lw_privs_8 ++ (lw_privs_9 ++ (lw_privs_10 ++ (lw_privs_11))))))))))
def lw_tbl : List Cond := k2_sels lw_privs ++ tables_1
theorem lw_privs_ok : ∀ q ∈ lw_privs, lw_okq q := by
  show ∀ q ∈ lw_privs_1 ++ (lw_privs_2 ++ (lw_privs_3 ++ (lw_privs_4 ++ (lw_privs_5 ++ (lw_privs_6 ++ (lw_privs_7 ++ (lw_privs_8 ++ (lw_privs_9 ++ (lw_privs_10 ++ (lw_privs_11)))))))))), lw_okq q
  exact List.forall_mem_append.mpr ⟨lw_r1, List.forall_mem_append.mpr ⟨lw_r2, List.forall_mem_append.mpr ⟨lw_r3, List.forall_mem_append.mpr ⟨lw_r4, List.forall_mem_append.mpr ⟨lw_r5, List.forall_mem_append.mpr ⟨lw_r6, List.forall_mem_append.mpr ⟨lw_r7, List.forall_mem_append.mpr ⟨lw_r8, List.forall_mem_append.mpr ⟨lw_r9, List.forall_mem_append.mpr ⟨lw_r10, lw_r11⟩⟩⟩⟩⟩⟩⟩⟩⟩⟩
-- ===== end =====
end
section
/-! The layer: a whole heap above the start as one function, addresses counted from the start's size; sV: the machine at a place of a method, in these words. -/
abbrev sE : Type := (Nat × Nat × (Nat → Value)) ⊕ (Nat × List Value)
abbrev sHp : Type := Nat × (Nat → sE)
/-- launch, numbers of classes and fields, array kinds, the heap at the start, the classes' tables, the words, the script's address (in these words: retAddr) -/
abbrev sG : Type := Launch × va_G × List (ClassId × FieldType) × Heap × List vw_C × List Cond × Nat × Nat × (Nat → Int32)
abbrev sM : Type := MethodName × ByteArray × Nat × Option FieldType
abbrev sg_b (g : sG) : Nat := g.2.2.2.1.size
abbrev sg_ws (g : sG) : List Cond := g.2.2.2.2.2.1
abbrev sg_r (g : sG) : Nat × Nat := (g.2.2.2.1.size, g.2.2.2.2.2.2.1)
abbrev sg_L (g : sG) : Nat := g.2.2.2.2.2.2.2.1
abbrev sg_xs (g : sG) : Nat → Int32 := g.2.2.2.2.2.2.2.2
abbrev sg_cl (g : sG) : List vw_C := g.2.2.2.2.1
def rv (b : Nat × Nat) (v : Value) : Value := match v with
  | .ref a => .ref (b.1 + a)
  | .retAddr _ => .ref b.2
  | w => w
def sUp (f : Nat → sE) (a : Nat) (x : sE) : Nat → sE := fun j => if j = a then x else f j
def sAt (g : sG) (i : Nat) (x : sE) (H : Heap) : Prop := match x with
  | .inl (k, n, f) => ∃ (cA : ClassId) (ty : FieldType), g.2.2.1[k]? = some (cA, ty) ∧ H[sg_b g + i]? = some (arrV cA n (fun j => rv (sg_r g) (f j)))
  | .inr (ci, fs) => ∃ r : vw_C, (sg_cl g)[ci]? = some r ∧ t_OB (sg_b g + i) (g.2.1.1 ci) r.2.2 (g.2.1.2 ci) H (fun k => rv (sg_r g) (vp_V fs k))
def sR (g : sG) (hp : sHp) (H : Heap) : Prop := H.size = sg_b g + hp.1 ∧ (∀ i, i < hp.1 → sAt g i (hp.2 i) H) ∧ ∀ q, q < sg_b g → H[q]? = g.2.2.2.1[q]?
def sK (g : sG) (U : State) : Prop := va_K g.2.1 (sg_cl g) g.2.2.1 U ∧ (∀ (k : Nat) (cA : ClassId) (C : String), g.2.2.1[k]? = some (cA, .object C) → va_AO C U) ∧ va_X (sg_r g).2 (sg_L g) (sg_xs g) U g.2.2.2.1
def sQ (g : sG) (Q : Option Value → sHp → Prop) : Array Value → State → Outcome → State → Prop := fun _ _ o t => ∃ (r : Option Value) (hp : sHp), o = .returned (r.map (rv (sg_r g))) ∧ Q r hp ∧ sR g hp t.heap ∧ sK g t
def sRm (d C S : Nat) : Room := { frames := d, cells := C, slots := S, locals := 60 * d }
def sWs (g : sG) (M : sM) : List Cond := Cond.code M.1 M.2.1 M.2.2.1 M.2.2.2 :: sg_ws g
def sX (g : sG) (M : sM) (p : Program) (s : State) (m : MethodId) (args : Array Value) (meth : Method) (c : Code) : Prop :=
  p.tables.exec = Jvm.exec ∧ c.code = M.2.1 ∧ meth.sig.returnType = M.2.2.2 ∧ c.maxLocals = M.2.2.1 ∧ s.vm.findClass M.1.cls = some m.cls ∧ (∀ w ∈ sg_ws g, w.before args s = true) ∧ sK g s ∧ meth.locks = false ∧ (M.1.cls = "DomainHouseLaw" → s.heap.size = sg_b g ∧ args = #[Value.ref (sg_r g).2]) ∧ meth.name = M.1.name
def sHas (b : Nat × Nat) (ls : Array Slot) (nL : Nat) (lv : List (Nat × Value)) : Prop := lv_has ls nL (lv.map fun q => (q.1, rv b q.2))
abbrev sZT : Type := List Frame → Array Value → State → State → Prop
def sZ (g : sG) (C S : Nat) (Q : Option Value → sHp → Prop) : sZT := fun below args s => MQ below (sQ g Q) args s C S (fun q => sg_b g ≤ q)
def sV (g : sG) (M : sM) (R : Room) (Z : sZT) (pc : Nat) (lv : List (Nat × Value)) (st : List Value) (hp : sHp) (ce sl : Nat) : Prop :=
  ∀ (p : Program) (e : Env) (s : State) (m : MethodId) (args : Array Value) (below : List Frame) (meth : Method) (c : Code) (H : Heap) (locs : List Loc) (ls : Array Slot),
    sX g M p s m args meth c → sR g hp H → (∀ q ∈ locs, sg_b g ≤ q.base) → sHas (sg_r g) ls M.2.2.1 lv →
    W p g.1 e R s m args below meth c H locs ce sl (Z below args s) (F0 m pc ls (st.map (rv (sg_r g))))
/-- a method's contract: at these arguments and this heap it returns, with Q of answer and heap -/
def sC (g : sG) (M : sM) (d C S : Nat) (av : List Value) (hp : sHp) (Q : Option Value → sHp → Prop) : Prop :=
  Met g.1 M.1 (sWs g M) (sRm d C S) (fun a U => a = (av.map (rv (sg_r g))).toArray ∧ sR g hp U.heap ∧ sK g U) (sQ g Q) C S (fun q => sg_b g ≤ q)
theorem sK.moved {g : sG} {u U : State} (h : u.vm.Alike U.vm) (k : sK g u) : sK g U := ⟨va_K.moved h k.1, fun i cA C hq => va_AO.moved h (k.2.1 i cA C hq), va_X.moved h k.2.2⟩
/-! locals by name -/
def sGet (i : Nat) : List (Nat × Value) → Option Value
  | [] => none
  | q :: l => if q.1 = i then some q.2 else sGet i l
theorem sGet_mem {i : Nat} {v : Value} : ∀ {l : List (Nat × Value)}, sGet i l = some v → (i, v) ∈ l
  | [], h => by simp [sGet] at h
  | q :: l, h => by
    simp only [sGet] at h
    split at h
    next e => cases h; subst e; exact List.mem_cons_self
    next => exact List.mem_cons_of_mem _ (sGet_mem h)
theorem sHas.get {b : Nat × Nat} {nL i : Nat} {ls : Array Slot} {lv : List (Nat × Value)} {v : Value} (h : sHas b ls nL lv) (hk : sGet i lv = some v) : ls[i]? = some (.val (rv b v)) :=
  h.2.2 (i, rv b v) (List.mem_map.mpr ⟨(i, v), sGet_mem hk, rfl⟩)
def sSet (i : Nat) (v : Value) (lv : List (Nat × Value)) : List (Nat × Value) := (i, v) :: lv.filter (fun q => !(q.1 == i) && !(q.1 + 1 == i && q.2.category == 2))
def sSetL (i : Nat) (v : Value) (lv : List (Nat × Value)) : List (Nat × Value) := (i, v) :: lv.filter (fun q => !(q.1 == i) && (!(q.1 == i + 1) && !(q.1 + 1 == i && q.2.category == 2)))
theorem sGet_new {i : Nat} {v : Value} {lv : List (Nat × Value)} : sGet i (sSet i v lv) = some v := by simp [sGet, sSet]
theorem sGet_filter {j : Nat} {w : Value} {p : Nat × Value → Bool} (hp : p (j, w) = true) : ∀ {lv : List (Nat × Value)}, sGet j lv = some w → sGet j (lv.filter p) = some w
  | [], h => by simp [sGet] at h
  | q :: l, h => by
    simp only [sGet] at h
    split at h
    next e =>
      cases h
      obtain ⟨a, b⟩ := q
      have e : a = j := e
      subst e
      simp [List.filter, hp, sGet]
    next e =>
      simp only [List.filter]
      split
      · simp only [sGet, if_neg e]; exact sGet_filter hp h
      · exact sGet_filter hp h
theorem sGet_keep {i j : Nat} {v w : Value} {lv : List (Nat × Value)} (h : sGet j lv = some w) (hne : j ≠ i) (hc : w.category = 1 := by rfl) : sGet j (sSet i v lv) = some w := by
  simp only [sSet, sGet, if_neg (Ne.symm hne)]
  exact sGet_filter (by simp [hne, hc]) h
theorem rv_cat (b : Nat × Nat) (v : Value) : (rv b v).category = v.category := by cases v <;> rfl
theorem sSet_map (b : Nat × Nat) (i : Nat) (v : Value) (lv : List (Nat × Value)) : (i, rv b v) :: (lv.map fun q => (q.1, rv b q.2)).filter (fun q => !(q.1 == i) && !(q.1 + 1 == i && q.2.category == 2)) = (sSet i v lv).map fun q => (q.1, rv b q.2) := by
  simp only [sSet, List.map_cons, List.filter_map, Function.comp_def, rv_cat]
theorem sSetL_map (b : Nat × Nat) (i : Nat) (v : Value) (lv : List (Nat × Value)) : (i, rv b v) :: (lv.map fun q => (q.1, rv b q.2)).filter (fun q => !(q.1 == i) && (!(q.1 == i + 1) && !(q.1 + 1 == i && q.2.category == 2))) = (sSetL i v lv).map fun q => (q.1, rv b q.2) := by
  simp only [sSetL, List.map_cons, List.filter_map, Function.comp_def, rv_cat]
/-! a method's contract out of its walk -/
theorem sArgs_map (b : Nat × Nat) : ∀ (i : Nat) (vs : List Value), lv_args i (vs.map (rv b)) = (lv_args i vs).map fun q => (q.1, rv b q.2)
  | _, [] => rfl
  | i, v :: vs => by simp only [List.map_cons, lv_args, rv_cat, sArgs_map b _ vs]
theorem sSl_len (b : Nat × Nat) (vs : List Value) : (lg_sl (vs.map (rv b))).length = (lg_sl vs).length := by
  induction vs with
  | nil => rfl
  | cons v vs ih =>
    simp only [lg_sl, List.map_cons, List.flatMap_cons, List.length_append, rv_cat] at ih ⊢
    rw [ih]
    split <;> rfl
theorem sC.of {g : sG} {M : sM} {d C S : Nat} {av : List Value} {hp : sHp} {Q : Option Value → sHp → Prop} (hy : plainName M.1.cls = true) (hL : M.1.cls ≠ "DomainHouseLaw") (hn : (lg_sl av).length ≤ M.2.2.1)
    (h : sV g M (sRm d C S) (sZ g C S Q) 0 (lv_args 0 av) [] hp 0 0) : sC g M d C S av hp Q := by
  refine Met.ofW (cc := M.2.1) (maxL := M.2.2.1) (ret := M.2.2.2) hy rfl ?_
  intro p e s m args below meth c s₁ B hml hv
  obtain ⟨rfl, hR, hK⟩ := hv
  have hts := atoms_spec (ws := sWs g M) B.pre
  have hl := lv_entry (av.map (rv (sg_r g))) (n := M.2.2.1) (by rw [sSl_len]; exact hn)
  rw [sArgs_map] at hl
  have hnm := name_of_methodNamed B.named B.method
  rw [lg_entry_eq]
  exact h p e s m _ below meth c s.heap [] _ ⟨B.exec, B.bytes, B.returns, hml, findClass_of_methodNamed B.named, fun w hw => hts w (List.mem_cons_of_mem _ hw), hK, B.notSynchronized, fun h => absurd h hL, hnm.1⟩ hR (fun _ h => by cases h) hl
theorem sC.weak {g : sG} {M : sM} {d C S : Nat} {av : List Value} {hp : sHp} {Q Q' : Option Value → sHp → Prop} (h : sC g M d C S av hp Q) (hq : ∀ r hp', Q r hp' → Q' r hp') : sC g M d C S av hp Q' := by
  intro p e ha hc hk s m args below hf h1 h2 h3
  obtain ⟨t, o, a1, a2, a3, ⟨⟨r, hp', b1, b2, b3⟩, a4⟩⟩ := h p e ha hc hk s m args below hf h1 h2 h3
  exact ⟨t, o, a1, a2, a3, ⟨⟨r, hp', b1, hq _ _ b2, b3⟩, a4⟩⟩
end
section
section SVR
variable {g : sG} {M : sM} {R : Room} {Z : sZT} {pc : Nat} {lv : List (Nat × Value)} {st : List Value} {hp : sHp} {ce sl : Nat}
theorem sv_iconst {n : Int} {v : Int32} (hd : decode M.2.1 pc = .ok (.iconst n, 1)) (hv : Int32.ofInt n = v) (k : sV g M R Z (pc + 1) lv (.int v :: st) hp ce sl) : sV g M R Z (pc) lv (st) hp ce sl := fun p e s m args below meth c H locs ls X r hl h => lv_iconst X.1 X.2.1 hd hv (k p e s m args below meth c H locs ls X r hl h)
theorem sv_bipush {n : Int} {v : Int32} (hd : decode M.2.1 pc = .ok (.bipush n, 2)) (hv : (Int8.ofInt n).toInt32 = v) (k : sV g M R Z (pc + 2) lv (.int v :: st) hp ce sl) : sV g M R Z (pc) lv (st) hp ce sl := fun p e s m args below meth c H locs ls X r hl h => lv_bipush X.1 X.2.1 hd hv (k p e s m args below meth c H locs ls X r hl h)
theorem sv_sipush {n : Int} {v : Int32} (hd : decode M.2.1 pc = .ok (.sipush n, 3)) (hv : (Int16.ofInt n).toInt32 = v) (k : sV g M R Z (pc + 3) lv (.int v :: st) hp ce sl) : sV g M R Z (pc) lv (st) hp ce sl := fun p e s m args below meth c H locs ls X r hl h => lv_sipush X.1 X.2.1 hd hv (k p e s m args below meth c H locs ls X r hl h)
theorem sv_lconst {n : Fin 2} {v : Int64} (hd : decode M.2.1 pc = .ok (.lconst n, 1)) (hv : Int64.ofNat (n : Nat) = v) (k : sV g M R Z (pc + 1) lv (.long v :: st) hp ce sl) : sV g M R Z (pc) lv (st) hp ce sl := fun p e s m args below meth c H locs ls X r hl h => lv_lconst X.1 X.2.1 hd hv (k p e s m args below meth c H locs ls X r hl h)
theorem sv_iload_n {q : Fin 4} {i : Nat} {x : Int32} (hd : decode M.2.1 pc = .ok (.iload_n q, 1)) (hi : (q : Nat) = i) (hg : sGet i lv = some (.int x)) (k : sV g M R Z (pc + 1) lv (.int x :: st) hp ce sl) : sV g M R Z (pc) lv (st) hp ce sl := fun p e s m args below meth c H locs ls X r hl h => lv_iload_n X.1 X.2.1 hd hi (h.get hg) (k p e s m args below meth c H locs ls X r hl h)
theorem sv_iload {i : Nat} {x : Int32} (hd : decode M.2.1 pc = .ok (.iload i, 2)) (hg : sGet i lv = some (.int x)) (k : sV g M R Z (pc + 2) lv (.int x :: st) hp ce sl) : sV g M R Z (pc) lv (st) hp ce sl := fun p e s m args below meth c H locs ls X r hl h => lv_iload X.1 X.2.1 hd (h.get hg) (k p e s m args below meth c H locs ls X r hl h)
theorem sv_istore_n {q : Fin 4} {i : Nat} {x : Int32} (hd : decode M.2.1 pc = .ok (.istore_n q, 1)) (hi : (q : Nat) = i) (hn : i < M.2.2.1) (k : sV g M R Z (pc + 1) (sSet i (.int x) lv) (st) hp ce sl) : sV g M R Z (pc) lv (.int x :: st) hp ce sl := fun p e s m args below meth c H locs ls X r hl h => lv_istore_n X.1 X.2.1 hd hi h hn (sSet_map (sg_r g) i (.int x) lv) (fun ls h => (k p e s m args below meth c H locs ls X r hl h))
theorem sv_istore {i : Nat} {x : Int32} (hd : decode M.2.1 pc = .ok (.istore i, 2)) (hn : i < M.2.2.1) (k : sV g M R Z (pc + 2) (sSet i (.int x) lv) (st) hp ce sl) : sV g M R Z (pc) lv (.int x :: st) hp ce sl := fun p e s m args below meth c H locs ls X r hl h => lv_istore X.1 X.2.1 hd h hn (sSet_map (sg_r g) i (.int x) lv) (fun ls h => (k p e s m args below meth c H locs ls X r hl h))
theorem sv_lload_n {q : Fin 4} {i : Nat} {x : Int64} (hd : decode M.2.1 pc = .ok (.lload_n q, 1)) (hi : (q : Nat) = i) (hg : sGet i lv = some (.long x)) (k : sV g M R Z (pc + 1) lv (.long x :: st) hp ce sl) : sV g M R Z (pc) lv (st) hp ce sl := fun p e s m args below meth c H locs ls X r hl h => lv_lload_n X.1 X.2.1 hd hi (h.get hg) (k p e s m args below meth c H locs ls X r hl h)
theorem sv_lload {i : Nat} {x : Int64} (hd : decode M.2.1 pc = .ok (.lload i, 2)) (hg : sGet i lv = some (.long x)) (k : sV g M R Z (pc + 2) lv (.long x :: st) hp ce sl) : sV g M R Z (pc) lv (st) hp ce sl := fun p e s m args below meth c H locs ls X r hl h => lv_lload X.1 X.2.1 hd (h.get hg) (k p e s m args below meth c H locs ls X r hl h)
theorem sv_lstore_n {q : Fin 4} {i : Nat} {x : Int64} (hd : decode M.2.1 pc = .ok (.lstore_n q, 1)) (hi : (q : Nat) = i) (hn : i + 1 < M.2.2.1) (k : sV g M R Z (pc + 1) (sSetL i (.long x) lv) (st) hp ce sl) : sV g M R Z (pc) lv (.long x :: st) hp ce sl := fun p e s m args below meth c H locs ls X r hl h => lv_lstore_n X.1 X.2.1 hd hi h hn (sSetL_map (sg_r g) i (.long x) lv) (fun ls h => (k p e s m args below meth c H locs ls X r hl h))
theorem sv_lstore {i : Nat} {x : Int64} (hd : decode M.2.1 pc = .ok (.lstore i, 2)) (hn : i + 1 < M.2.2.1) (k : sV g M R Z (pc + 2) (sSetL i (.long x) lv) (st) hp ce sl) : sV g M R Z (pc) lv (.long x :: st) hp ce sl := fun p e s m args below meth c H locs ls X r hl h => lv_lstore X.1 X.2.1 hd h hn (sSetL_map (sg_r g) i (.long x) lv) (fun ls h => (k p e s m args below meth c H locs ls X r hl h))
theorem sv_aload_n {q : Fin 4} {i : Nat} {x : Nat} (hd : decode M.2.1 pc = .ok (.aload_n q, 1)) (hi : (q : Nat) = i) (hg : sGet i lv = some (.ref x)) (k : sV g M R Z (pc + 1) lv (.ref x :: st) hp ce sl) : sV g M R Z (pc) lv (st) hp ce sl := fun p e s m args below meth c H locs ls X r hl h => lv_aload_n X.1 X.2.1 hd hi (h.get hg) (k p e s m args below meth c H locs ls X r hl h)
theorem sv_aload {i : Nat} {x : Nat} (hd : decode M.2.1 pc = .ok (.aload i, 2)) (hg : sGet i lv = some (.ref x)) (k : sV g M R Z (pc + 2) lv (.ref x :: st) hp ce sl) : sV g M R Z (pc) lv (st) hp ce sl := fun p e s m args below meth c H locs ls X r hl h => lv_aload X.1 X.2.1 hd (h.get hg) (k p e s m args below meth c H locs ls X r hl h)
theorem sv_astore_n {q : Fin 4} {i : Nat} {x : Nat} (hd : decode M.2.1 pc = .ok (.astore_n q, 1)) (hi : (q : Nat) = i) (hn : i < M.2.2.1) (k : sV g M R Z (pc + 1) (sSet i (.ref x) lv) (st) hp ce sl) : sV g M R Z (pc) lv (.ref x :: st) hp ce sl := fun p e s m args below meth c H locs ls X r hl h => lv_astore_n X.1 X.2.1 hd hi h hn (sSet_map (sg_r g) i (.ref x) lv) (fun ls h => (k p e s m args below meth c H locs ls X r hl h))
theorem sv_astore {i : Nat} {x : Nat} (hd : decode M.2.1 pc = .ok (.astore i, 2)) (hn : i < M.2.2.1) (k : sV g M R Z (pc + 2) (sSet i (.ref x) lv) (st) hp ce sl) : sV g M R Z (pc) lv (.ref x :: st) hp ce sl := fun p e s m args below meth c H locs ls X r hl h => lv_astore X.1 X.2.1 hd h hn (sSet_map (sg_r g) i (.ref x) lv) (fun ls h => (k p e s m args below meth c H locs ls X r hl h))
theorem sv_iinc {i : Nat} {n : Int} {x v : Int32} (hd : decode M.2.1 pc = .ok (.iinc i n, 3)) (hg : sGet i lv = some (.int x)) (hv : x + Int32.ofInt n = v) (hn : i < M.2.2.1) (k : sV g M R Z (pc + 3) (sSet i (.int v) lv) (st) hp ce sl) : sV g M R Z (pc) lv (st) hp ce sl := fun p e s m args below meth c H locs ls X r hl h =>  (by
  obtain ⟨j, hj⟩ := List.getElem?_of_mem (List.mem_map.mpr ⟨(i, Value.int x), sGet_mem hg, rfl⟩ : (i, rv (sg_r g) (.int x)) ∈ lv.map fun q => (q.1, rv (sg_r g) q.2))
  exact lv_iinc X.1 X.2.1 hd h hj hv hn (sSet_map (sg_r g) i (.int v) lv) (fun ls h => (k p e s m args below meth c H locs ls X r hl h)))
theorem sv_iadd {x y : Int32} (hd : decode M.2.1 pc = .ok (.iadd, 1)) (k : sV g M R Z (pc + 1) lv (.int (x + y) :: st) hp ce sl) : sV g M R Z (pc) lv (.int y :: .int x :: st) hp ce sl := fun p e s m args below meth c H locs ls X r hl h => lv_iadd X.1 X.2.1 hd (k p e s m args below meth c H locs ls X r hl h)
theorem sv_isub {x y : Int32} (hd : decode M.2.1 pc = .ok (.isub, 1)) (k : sV g M R Z (pc + 1) lv (.int (x - y) :: st) hp ce sl) : sV g M R Z (pc) lv (.int y :: .int x :: st) hp ce sl := fun p e s m args below meth c H locs ls X r hl h => lv_isub X.1 X.2.1 hd (k p e s m args below meth c H locs ls X r hl h)
theorem sv_imul {x y : Int32} (hd : decode M.2.1 pc = .ok (.imul, 1)) (k : sV g M R Z (pc + 1) lv (.int (x * y) :: st) hp ce sl) : sV g M R Z (pc) lv (.int y :: .int x :: st) hp ce sl := fun p e s m args below meth c H locs ls X r hl h => lv_imul X.1 X.2.1 hd (k p e s m args below meth c H locs ls X r hl h)
theorem sv_iand {x y : Int32} (hd : decode M.2.1 pc = .ok (.iand, 1)) (k : sV g M R Z (pc + 1) lv (.int (x &&& y) :: st) hp ce sl) : sV g M R Z (pc) lv (.int y :: .int x :: st) hp ce sl := fun p e s m args below meth c H locs ls X r hl h => lv_iand X.1 X.2.1 hd (k p e s m args below meth c H locs ls X r hl h)
theorem sv_ior {x y : Int32} (hd : decode M.2.1 pc = .ok (.ior, 1)) (k : sV g M R Z (pc + 1) lv (.int (x ||| y) :: st) hp ce sl) : sV g M R Z (pc) lv (.int y :: .int x :: st) hp ce sl := fun p e s m args below meth c H locs ls X r hl h => lv_ior X.1 X.2.1 hd (k p e s m args below meth c H locs ls X r hl h)
theorem sv_ixor {x y : Int32} (hd : decode M.2.1 pc = .ok (.ixor, 1)) (k : sV g M R Z (pc + 1) lv (.int (x ^^^ y) :: st) hp ce sl) : sV g M R Z (pc) lv (.int y :: .int x :: st) hp ce sl := fun p e s m args below meth c H locs ls X r hl h => lv_ixor X.1 X.2.1 hd (k p e s m args below meth c H locs ls X r hl h)
theorem sv_ishl {x y : Int32} (hd : decode M.2.1 pc = .ok (.ishl, 1)) (k : sV g M R Z (pc + 1) lv (.int (x <<< (y &&& 31)) :: st) hp ce sl) : sV g M R Z (pc) lv (.int y :: .int x :: st) hp ce sl := fun p e s m args below meth c H locs ls X r hl h => lv_ishl X.1 X.2.1 hd (k p e s m args below meth c H locs ls X r hl h)
theorem sv_ishr {x y : Int32} (hd : decode M.2.1 pc = .ok (.ishr, 1)) (k : sV g M R Z (pc + 1) lv (.int (x >>> (y &&& 31)) :: st) hp ce sl) : sV g M R Z (pc) lv (.int y :: .int x :: st) hp ce sl := fun p e s m args below meth c H locs ls X r hl h => lv_ishr X.1 X.2.1 hd (k p e s m args below meth c H locs ls X r hl h)
theorem sv_ineg {x : Int32} (hd : decode M.2.1 pc = .ok (.ineg, 1)) (k : sV g M R Z (pc + 1) lv (.int (-x) :: st) hp ce sl) : sV g M R Z (pc) lv (.int x :: st) hp ce sl := fun p e s m args below meth c H locs ls X r hl h => lv_ineg X.1 X.2.1 hd (k p e s m args below meth c H locs ls X r hl h)
theorem sv_idiv {x y : Int32} (hd : decode M.2.1 pc = .ok (.idiv, 1)) (hne : ¬ y = 0) (k : sV g M R Z (pc + 1) lv (.int (x / y) :: st) hp ce sl) : sV g M R Z (pc) lv (.int y :: .int x :: st) hp ce sl := fun p e s m args below meth c H locs ls X r hl h => lv_idiv X.1 X.2.1 hd hne (k p e s m args below meth c H locs ls X r hl h)
theorem sv_irem {x y : Int32} (hd : decode M.2.1 pc = .ok (.irem, 1)) (hne : ¬ y = 0) (k : sV g M R Z (pc + 1) lv (.int (x - x / y * y) :: st) hp ce sl) : sV g M R Z (pc) lv (.int y :: .int x :: st) hp ce sl := fun p e s m args below meth c H locs ls X r hl h => lv_irem X.1 X.2.1 hd hne (k p e s m args below meth c H locs ls X r hl h)
theorem sv_ladd {x y : Int64} (hd : decode M.2.1 pc = .ok (.ladd, 1)) (k : sV g M R Z (pc + 1) lv (.long (x + y) :: st) hp ce sl) : sV g M R Z (pc) lv (.long y :: .long x :: st) hp ce sl := fun p e s m args below meth c H locs ls X r hl h => lv_ladd X.1 X.2.1 hd (k p e s m args below meth c H locs ls X r hl h)
theorem sv_lsub {x y : Int64} (hd : decode M.2.1 pc = .ok (.lsub, 1)) (k : sV g M R Z (pc + 1) lv (.long (x - y) :: st) hp ce sl) : sV g M R Z (pc) lv (.long y :: .long x :: st) hp ce sl := fun p e s m args below meth c H locs ls X r hl h => lv_lsub X.1 X.2.1 hd (k p e s m args below meth c H locs ls X r hl h)
theorem sv_land {x y : Int64} (hd : decode M.2.1 pc = .ok (.land, 1)) (k : sV g M R Z (pc + 1) lv (.long (x &&& y) :: st) hp ce sl) : sV g M R Z (pc) lv (.long y :: .long x :: st) hp ce sl := fun p e s m args below meth c H locs ls X r hl h => lv_land X.1 X.2.1 hd (k p e s m args below meth c H locs ls X r hl h)
theorem sv_lor {x y : Int64} (hd : decode M.2.1 pc = .ok (.lor, 1)) (k : sV g M R Z (pc + 1) lv (.long (x ||| y) :: st) hp ce sl) : sV g M R Z (pc) lv (.long y :: .long x :: st) hp ce sl := fun p e s m args below meth c H locs ls X r hl h => lv_lor X.1 X.2.1 hd (k p e s m args below meth c H locs ls X r hl h)
theorem sv_iushr {x y v : Int32} (hd : decode M.2.1 pc = .ok (.iushr, 1)) (hv : (x.toUInt32 >>> (y.toUInt32 &&& Int32.toUInt32 31)).toInt32 = v) (k : sV g M R Z (pc + 1) lv (.int v :: st) hp ce sl) : sV g M R Z (pc) lv (.int y :: .int x :: st) hp ce sl := fun p e s m args below meth c H locs ls X r hl h => lv_iushr X.1 X.2.1 hd hv (k p e s m args below meth c H locs ls X r hl h)
theorem sv_lushr {x v : Int64} {y : Int32} (hd : decode M.2.1 pc = .ok (.lushr, 1)) (hv : (x.toUInt64 >>> (y.toInt64.toUInt64 &&& Int64.toUInt64 63)).toInt64 = v) (k : sV g M R Z (pc + 1) lv (.long v :: st) hp ce sl) : sV g M R Z (pc) lv (.int y :: .long x :: st) hp ce sl := fun p e s m args below meth c H locs ls X r hl h => lv_lushr X.1 X.2.1 hd hv (k p e s m args below meth c H locs ls X r hl h)
theorem sv_lshl {x v : Int64} {y : Int32} (hd : decode M.2.1 pc = .ok (.lshl, 1)) (hv : x <<< (y.toInt64 &&& 63) = v) (k : sV g M R Z (pc + 1) lv (.long v :: st) hp ce sl) : sV g M R Z (pc) lv (.int y :: .long x :: st) hp ce sl := fun p e s m args below meth c H locs ls X r hl h => lv_lshl X.1 X.2.1 hd hv (k p e s m args below meth c H locs ls X r hl h)
theorem sv_lshr {x v : Int64} {y : Int32} (hd : decode M.2.1 pc = .ok (.lshr, 1)) (hv : x >>> (y.toInt64 &&& 63) = v) (k : sV g M R Z (pc + 1) lv (.long v :: st) hp ce sl) : sV g M R Z (pc) lv (.int y :: .long x :: st) hp ce sl := fun p e s m args below meth c H locs ls X r hl h => lv_lshr X.1 X.2.1 hd hv (k p e s m args below meth c H locs ls X r hl h)
theorem sv_i2l {x : Int32} {v : Int64} (hd : decode M.2.1 pc = .ok (.i2l, 1)) (hv : x.toInt64 = v) (k : sV g M R Z (pc + 1) lv (.long v :: st) hp ce sl) : sV g M R Z (pc) lv (.int x :: st) hp ce sl := fun p e s m args below meth c H locs ls X r hl h => lv_i2l X.1 X.2.1 hd hv (k p e s m args below meth c H locs ls X r hl h)
theorem sv_l2i {x : Int64} {v : Int32} (hd : decode M.2.1 pc = .ok (.l2i, 1)) (hv : x.toInt32 = v) (k : sV g M R Z (pc + 1) lv (.int v :: st) hp ce sl) : sV g M R Z (pc) lv (.long x :: st) hp ce sl := fun p e s m args below meth c H locs ls X r hl h => lv_l2i X.1 X.2.1 hd hv (k p e s m args below meth c H locs ls X r hl h)
theorem sv_i2b {x v : Int32} (hd : decode M.2.1 pc = .ok (.i2b, 1)) (hv : x.toInt8.toInt32 = v) (k : sV g M R Z (pc + 1) lv (.int v :: st) hp ce sl) : sV g M R Z (pc) lv (.int x :: st) hp ce sl := fun p e s m args below meth c H locs ls X r hl h => lv_i2b X.1 X.2.1 hd hv (k p e s m args below meth c H locs ls X r hl h)
theorem sv_lcmp {x y : Int64} (hd : decode M.2.1 pc = .ok (.lcmp, 1)) (k : sV g M R Z (pc + 1) lv (.int (lg_cmp x y) :: st) hp ce sl) : sV g M R Z (pc) lv (.long y :: .long x :: st) hp ce sl := fun p e s m args below meth c H locs ls X r hl h => W.lcmp X.1 X.2.1 hd (k p e s m args below meth c H locs ls X r hl h)
theorem sv_dup {x : Value} (hd : decode M.2.1 pc = .ok (.dup, 1)) (hc : x.category = 1) (k : sV g M R Z (pc + 1) lv (x :: x :: st) hp ce sl) : sV g M R Z (pc) lv (x :: st) hp ce sl := fun p e s m args below meth c H locs ls X r hl h => lv_dup X.1 X.2.1 hd ((rv_cat _ _).trans hc) (k p e s m args below meth c H locs ls X r hl h)
theorem sv_pop {x : Value} (hd : decode M.2.1 pc = .ok (.pop, 1)) (hc : x.category = 1) (k : sV g M R Z (pc + 1) lv (st) hp ce sl) : sV g M R Z (pc) lv (x :: st) hp ce sl := fun p e s m args below meth c H locs ls X r hl h => lv_pop X.1 X.2.1 hd ((rv_cat _ _).trans hc) (k p e s m args below meth c H locs ls X r hl h)
theorem sv_dup2 {x y : Value} (hd : decode M.2.1 pc = .ok (.dup2, 1)) (hc : x.category = 1) (hc2 : y.category = 1) (k : sV g M R Z (pc + 1) lv (x :: y :: x :: y :: st) hp ce sl) : sV g M R Z (pc) lv (x :: y :: st) hp ce sl := fun p e s m args below meth c H locs ls X r hl h => lv_dup2_11 X.1 X.2.1 hd ((rv_cat _ _).trans hc) ((rv_cat _ _).trans hc2) (k p e s m args below meth c H locs ls X r hl h)
theorem sv_if_eq {x : Int32} {off : Int} {tgt : Nat} (hd : decode M.2.1 pc = .ok (.ifCond .eq off, 3)) (ht : (pc : Int) + off = (tgt : Int)) (kt : x = 0 → sV g M R Z (tgt) lv (st) hp ce sl) (kf : ¬ (x = 0) → sV g M R Z (pc + 3) lv (st) hp ce sl) : sV g M R Z (pc) lv (.int x :: st) hp ce sl := fun p e s m args below meth c H locs ls X r hl h => lv_if_eq X.1 X.2.1 hd ht (fun z => kt z p e s m args below meth c H locs ls X r hl h) (fun z => kf z p e s m args below meth c H locs ls X r hl h)
theorem sv_icmp_eq {x y : Int32} {off : Int} {tgt : Nat} (hd : decode M.2.1 pc = .ok (.if_icmp .eq off, 3)) (ht : (pc : Int) + off = (tgt : Int)) (kt : x = y → sV g M R Z (tgt) lv (st) hp ce sl) (kf : ¬ (x = y) → sV g M R Z (pc + 3) lv (st) hp ce sl) : sV g M R Z (pc) lv (.int y :: .int x :: st) hp ce sl := fun p e s m args below meth c H locs ls X r hl h => lv_icmp_eq X.1 X.2.1 hd ht (fun z => kt z p e s m args below meth c H locs ls X r hl h) (fun z => kf z p e s m args below meth c H locs ls X r hl h)
theorem sv_if_ne {x : Int32} {off : Int} {tgt : Nat} (hd : decode M.2.1 pc = .ok (.ifCond .ne off, 3)) (ht : (pc : Int) + off = (tgt : Int)) (kt : ¬ x = 0 → sV g M R Z (tgt) lv (st) hp ce sl) (kf : x = 0 → sV g M R Z (pc + 3) lv (st) hp ce sl) : sV g M R Z (pc) lv (.int x :: st) hp ce sl := fun p e s m args below meth c H locs ls X r hl h => lv_if_ne X.1 X.2.1 hd ht (fun z => kt z p e s m args below meth c H locs ls X r hl h) (fun z => kf z p e s m args below meth c H locs ls X r hl h)
theorem sv_icmp_ne {x y : Int32} {off : Int} {tgt : Nat} (hd : decode M.2.1 pc = .ok (.if_icmp .ne off, 3)) (ht : (pc : Int) + off = (tgt : Int)) (kt : ¬ x = y → sV g M R Z (tgt) lv (st) hp ce sl) (kf : x = y → sV g M R Z (pc + 3) lv (st) hp ce sl) : sV g M R Z (pc) lv (.int y :: .int x :: st) hp ce sl := fun p e s m args below meth c H locs ls X r hl h => lv_icmp_ne X.1 X.2.1 hd ht (fun z => kt z p e s m args below meth c H locs ls X r hl h) (fun z => kf z p e s m args below meth c H locs ls X r hl h)
theorem sv_if_lt {x : Int32} {off : Int} {tgt : Nat} (hd : decode M.2.1 pc = .ok (.ifCond .lt off, 3)) (ht : (pc : Int) + off = (tgt : Int)) (kt : x < 0 → sV g M R Z (tgt) lv (st) hp ce sl) (kf : ¬ (x < 0) → sV g M R Z (pc + 3) lv (st) hp ce sl) : sV g M R Z (pc) lv (.int x :: st) hp ce sl := fun p e s m args below meth c H locs ls X r hl h => lv_if_lt X.1 X.2.1 hd ht (fun z => kt z p e s m args below meth c H locs ls X r hl h) (fun z => kf z p e s m args below meth c H locs ls X r hl h)
theorem sv_icmp_lt {x y : Int32} {off : Int} {tgt : Nat} (hd : decode M.2.1 pc = .ok (.if_icmp .lt off, 3)) (ht : (pc : Int) + off = (tgt : Int)) (kt : x < y → sV g M R Z (tgt) lv (st) hp ce sl) (kf : ¬ (x < y) → sV g M R Z (pc + 3) lv (st) hp ce sl) : sV g M R Z (pc) lv (.int y :: .int x :: st) hp ce sl := fun p e s m args below meth c H locs ls X r hl h => lv_icmp_lt X.1 X.2.1 hd ht (fun z => kt z p e s m args below meth c H locs ls X r hl h) (fun z => kf z p e s m args below meth c H locs ls X r hl h)
theorem sv_if_ge {x : Int32} {off : Int} {tgt : Nat} (hd : decode M.2.1 pc = .ok (.ifCond .ge off, 3)) (ht : (pc : Int) + off = (tgt : Int)) (kt : 0 ≤ x → sV g M R Z (tgt) lv (st) hp ce sl) (kf : ¬ (0 ≤ x) → sV g M R Z (pc + 3) lv (st) hp ce sl) : sV g M R Z (pc) lv (.int x :: st) hp ce sl := fun p e s m args below meth c H locs ls X r hl h => lv_if_ge X.1 X.2.1 hd ht (fun z => kt z p e s m args below meth c H locs ls X r hl h) (fun z => kf z p e s m args below meth c H locs ls X r hl h)
theorem sv_icmp_ge {x y : Int32} {off : Int} {tgt : Nat} (hd : decode M.2.1 pc = .ok (.if_icmp .ge off, 3)) (ht : (pc : Int) + off = (tgt : Int)) (kt : y ≤ x → sV g M R Z (tgt) lv (st) hp ce sl) (kf : ¬ (y ≤ x) → sV g M R Z (pc + 3) lv (st) hp ce sl) : sV g M R Z (pc) lv (.int y :: .int x :: st) hp ce sl := fun p e s m args below meth c H locs ls X r hl h => lv_icmp_ge X.1 X.2.1 hd ht (fun z => kt z p e s m args below meth c H locs ls X r hl h) (fun z => kf z p e s m args below meth c H locs ls X r hl h)
theorem sv_if_gt {x : Int32} {off : Int} {tgt : Nat} (hd : decode M.2.1 pc = .ok (.ifCond .gt off, 3)) (ht : (pc : Int) + off = (tgt : Int)) (kt : 0 < x → sV g M R Z (tgt) lv (st) hp ce sl) (kf : ¬ (0 < x) → sV g M R Z (pc + 3) lv (st) hp ce sl) : sV g M R Z (pc) lv (.int x :: st) hp ce sl := fun p e s m args below meth c H locs ls X r hl h => lv_if_gt X.1 X.2.1 hd ht (fun z => kt z p e s m args below meth c H locs ls X r hl h) (fun z => kf z p e s m args below meth c H locs ls X r hl h)
theorem sv_icmp_gt {x y : Int32} {off : Int} {tgt : Nat} (hd : decode M.2.1 pc = .ok (.if_icmp .gt off, 3)) (ht : (pc : Int) + off = (tgt : Int)) (kt : y < x → sV g M R Z (tgt) lv (st) hp ce sl) (kf : ¬ (y < x) → sV g M R Z (pc + 3) lv (st) hp ce sl) : sV g M R Z (pc) lv (.int y :: .int x :: st) hp ce sl := fun p e s m args below meth c H locs ls X r hl h => lv_icmp_gt X.1 X.2.1 hd ht (fun z => kt z p e s m args below meth c H locs ls X r hl h) (fun z => kf z p e s m args below meth c H locs ls X r hl h)
theorem sv_if_le {x : Int32} {off : Int} {tgt : Nat} (hd : decode M.2.1 pc = .ok (.ifCond .le off, 3)) (ht : (pc : Int) + off = (tgt : Int)) (kt : x ≤ 0 → sV g M R Z (tgt) lv (st) hp ce sl) (kf : ¬ (x ≤ 0) → sV g M R Z (pc + 3) lv (st) hp ce sl) : sV g M R Z (pc) lv (.int x :: st) hp ce sl := fun p e s m args below meth c H locs ls X r hl h => lv_if_le X.1 X.2.1 hd ht (fun z => kt z p e s m args below meth c H locs ls X r hl h) (fun z => kf z p e s m args below meth c H locs ls X r hl h)
theorem sv_icmp_le {x y : Int32} {off : Int} {tgt : Nat} (hd : decode M.2.1 pc = .ok (.if_icmp .le off, 3)) (ht : (pc : Int) + off = (tgt : Int)) (kt : x ≤ y → sV g M R Z (tgt) lv (st) hp ce sl) (kf : ¬ (x ≤ y) → sV g M R Z (pc + 3) lv (st) hp ce sl) : sV g M R Z (pc) lv (.int y :: .int x :: st) hp ce sl := fun p e s m args below meth c H locs ls X r hl h => lv_icmp_le X.1 X.2.1 hd ht (fun z => kt z p e s m args below meth c H locs ls X r hl h) (fun z => kf z p e s m args below meth c H locs ls X r hl h)
theorem sv_goto {off : Int} {tgt : Nat} (hd : decode M.2.1 pc = .ok (.goto off, 3)) (ht : (pc : Int) + off = (tgt : Int)) (k : sV g M R Z (tgt) lv (st) hp ce sl) : sV g M R Z (pc) lv (st) hp ce sl := fun p e s m args below meth c H locs ls X r hl h => lv_goto X.1 X.2.1 hd ht (k p e s m args below meth c H locs ls X r hl h)
theorem sv_tableIn {dflt lo hi : Int} {offs : Array Int} {len : Nat} {x : Int32} {off : Int} {tgt : Nat} (hd : decode M.2.1 pc = .ok (.tableswitch dflt lo hi offs, len)) (h1 : ¬ x.toInt < lo) (h2 : ¬ hi < x.toInt) (ho : offs[(x.toInt - lo).toNat]? = some off) (ht : (pc : Int) + off = (tgt : Int)) (k : sV g M R Z (tgt) lv (st) hp ce sl) : sV g M R Z (pc) lv (.int x :: st) hp ce sl := fun p e s m args below meth c H locs ls X r hl h => lv_tableIn X.1 X.2.1 hd h1 h2 ho ht (k p e s m args below meth c H locs ls X r hl h)
theorem sv_tableOut {dflt lo hi : Int} {offs : Array Int} {len : Nat} {x : Int32} {tgt : Nat} (hd : decode M.2.1 pc = .ok (.tableswitch dflt lo hi offs, len)) (ho : x.toInt < lo ∨ hi < x.toInt) (ht : (pc : Int) + dflt = (tgt : Int)) (k : sV g M R Z (tgt) lv (st) hp ce sl) : sV g M R Z (pc) lv (.int x :: st) hp ce sl := fun p e s m args below meth c H locs ls X r hl h => lv_tableOut X.1 X.2.1 hd ho ht (k p e s m args below meth c H locs ls X r hl h)
theorem sv_ldc {index : Nat} {v : Int32} (hd : decode M.2.1 pc = .ok (.ldc index, 2)) (hw : Cond.constant M.1.cls index v ∈ sg_ws g) (k : sV g M R Z (pc + 2) lv (.int v :: st) hp ce sl) : sV g M R Z (pc) lv (st) hp ce sl := fun p e s m args below meth c H locs ls X r hl h => lv_ldc X.1 X.2.1 X.2.2.2.2.1 (X.2.2.2.2.2.1 _ hw) hd (k p e s m args below meth c H locs ls X r hl h)
theorem sv_ldcw {index : Nat} {v : Int32} (hd : decode M.2.1 pc = .ok (.ldc_w index, 3)) (hw : Cond.constant M.1.cls index v ∈ sg_ws g) (k : sV g M R Z (pc + 3) lv (.int v :: st) hp ce sl) : sV g M R Z (pc) lv (st) hp ce sl := fun p e s m args below meth c H locs ls X r hl h => lv_ldcw X.1 X.2.1 X.2.2.2.2.1 (X.2.2.2.2.2.1 _ hw) hd (k p e s m args below meth c H locs ls X r hl h)
theorem sv_ldc2 {index : Nat} {v : Int64} (hd : decode M.2.1 pc = .ok (.ldc2_w index, 3)) (hw : Cond.constantLong M.1.cls index v ∈ sg_ws g) (k : sV g M R Z (pc + 3) lv (.long v :: st) hp ce sl) : sV g M R Z (pc) lv (st) hp ce sl := fun p e s m args below meth c H locs ls X r hl h => lv_ldc2 X.1 X.2.1 X.2.2.2.2.1 (X.2.2.2.2.2.1 _ hw) hd (k p e s m args below meth c H locs ls X r hl h)
theorem sv_iincK {i : Nat} {n : Int} {x k : Int32} (hd : decode M.2.1 pc = .ok (.iinc i n, 3)) (hk : Int32.ofInt n = k) (hg : sGet i lv = some (.int x)) (hn : i < M.2.2.1) (kk : sV g M R Z (pc + 3) (sSet i (.int (x + k)) lv) (st) hp ce sl) : sV g M R Z (pc) lv (st) hp ce sl := sv_iinc hd hg (by rw [hk]) hn kk
theorem sv_aload_nS {q : Fin 4} {i x : Nat} (hd : decode M.2.1 pc = .ok (.aload_n q, 1)) (hi : (q : Nat) = i) (hg : sGet i lv = some (.retAddr x)) (k : sV g M R Z (pc + 1) lv (.retAddr x :: st) hp ce sl) : sV g M R Z (pc) lv (st) hp ce sl := fun p e s m args below meth c H locs ls X r hl h => lv_aload_n X.1 X.2.1 hd hi (h.get hg) (k p e s m args below meth c H locs ls X r hl h)
end SVR
end
section
/-! The layer's rules that read and write the heap, make cells, return and call. -/
theorem sAt.kept {g : sG} {i : Nat} {x : sE} {H H1 : Heap} (h : sAt g i x H) (hq : H1[sg_b g + i]? = H[sg_b g + i]?) : sAt g i x H1 := by
  obtain ⟨k, n, f⟩ | ⟨ci, fs⟩ := x
  · obtain ⟨cA, ty, h1, h2⟩ := h
    exact ⟨cA, ty, h1, hq.trans h2⟩
  · obtain ⟨r, h1, h2⟩ := h
    exact ⟨r, h1, h2.kept hq⟩
theorem sR.put {g : sG} {hp : sHp} {H H1 : Heap} {a : Nat} {x : sE} (h : sR g hp H) (z : H1.size = H.size) (o : ∀ q, q ≠ sg_b g + a → H1[q]? = H[q]?) (hx : sAt g a x H1) : sR g (hp.1, sUp hp.2 a x) H1 := by
  refine ⟨z.trans h.1, fun i hi => ?_, fun q hq => (o q (by omega)).trans (h.2.2 q hq)⟩
  by_cases hia : i = a
  · subst hia
    simp only [sUp, if_true]
    exact hx
  · simp only [sUp, if_neg hia]
    exact (h.2.1 i hi).kept (o _ (by omega))
theorem sR.push {g : sG} {hp : sHp} {H H1 : Heap} {x : sE} (h : sR g hp H) (z : H1.size = H.size + 1) (o : ∀ q, q < H.size → H1[q]? = H[q]?) (hx : sAt g hp.1 x H1) : sR g (hp.1 + 1, sUp hp.2 hp.1 x) H1 := by
  have hz := h.1
  refine ⟨by show H1.size = sg_b g + (hp.1 + 1); omega, fun i hi => ?_, fun q hq => (o q (by omega)).trans (h.2.2 q hq)⟩
  by_cases hia : i = hp.1
  · subst hia
    simp only [sUp, if_true]
    exact hx
  · simp only [sUp, if_neg hia]
    have hi' : i < hp.1 + 1 := hi
    exact (h.2.1 i (by omega)).kept (o _ (by omega))
/-- a class's tables stand among the words -/
def sCl (g : sG) (ci : Nat) (T : vw_C) (ty : Nat → FieldType) : Prop := (sg_cl g)[ci]? = some T ∧ (∀ w ∈ u_ws T.1 T.2.1 T.2.2, w ∈ sg_ws g) ∧ (∀ k, k < T.2.2 → parseFieldDescriptor (T.2.1 k).2.2.1 = some (ty k)) ∧ ∀ a, a < T.2.2 → ∀ b, b < T.2.2 → a ≠ b → (T.2.1 a).2.1 ≠ (T.2.1 b).2.1
abbrev sFl (T : vw_C) (own : String) (index k : Nat) : Cond := Cond.fieldLink own index (T.2.1 k).1 (T.2.1 k).2.1 (T.2.1 k).2.2.1
theorem vp_V_set {fs : List Value} {k : Nat} (hk : k < fs.length) (v : Value) (j : Nat) : vp_V (fs.set k v) j = if j = k then v else vp_V fs j := by
  rw [← vp_updV_set hk v j]
  rfl
section SVH
variable {g : sG} {M : sM} {R : Room} {Z : sZT} {pc : Nat} {lv : List (Nat × Value)} {st : List Value} {hp : sHp} {ce sl : Nat}
theorem sv_getfield {index ci a : Nat} {T : vw_C} {ty : Nat → FieldType} {fs : List Value} {v : Value} (hd : decode M.2.1 pc = .ok (.getfield index, 3)) (hC : sCl g ci T ty) (k : Nat) (hk : k < T.2.2) (hw : sFl T M.1.cls index k ∈ sg_ws g) (ha : a < hp.1) (he : hp.2 a = .inr (ci, fs)) (hv : vp_V fs k = v)
    (kk : sV g M R Z (pc + 3) lv (v :: st) hp ce sl) : sV g M R Z pc lv (.ref a :: st) hp ce sl := by
  intro p e s m args below meth c H locs ls X r hl h
  obtain ⟨hx, hb, hr, hml, hown, hts, hK, hlk, hlw, hnm⟩ := id X
  have h0 := r.2.1 a ha
  rw [he] at h0
  obtain ⟨r', h1, cell, q1, q2, q3, q4⟩ := h0
  have hr : r' = T := Option.some.inj (h1.symm.trans hC.1)
  subst hr
  obtain ⟨hS, hfc, kC, hkC, hkind⟩ := hK.1.1 ci _ hC.1
  obtain ⟨cf, kf, fi, f, hi, hsl⟩ := hS k hk
  refine W.getf hx hb hown (hts _ hw) hi (u_facts hfc hkC (u_lays hts hC.2.1 hk) hi).1 q1 (by rw [q3]; exact fun h => by cases h) (v := rv (sg_r g) v) ?_ rfl rfl hd (kk p e s m args below meth c H locs ls X r hl h)
  rw [hsl, q4 k hk, ← hv]
theorem sv_apart {s : State} {args : Array Value} {ci : Nat} {T : vw_C} {ty : Nat → FieldType} (hts : ∀ w ∈ sg_ws g, w.before args s = true) (hC : sCl g ci T ty) (hK : sK g s) : ∀ x y, x < T.2.2 → y < T.2.2 → x ≠ y → (g.2.1.2 ci) x ≠ (g.2.1.2 ci) y := by
  intro x y hx hy hne
  obtain ⟨hS, -⟩ := hK.1.1 ci _ hC.1
  obtain ⟨_, _, _, fa, hia, ea⟩ := hS x hx
  obtain ⟨_, _, _, fb, hib, eb⟩ := hS y hy
  rw [← ea, ← eb]
  refine u_apart (u_lays hts hC.2.1 hx) (u_lays hts hC.2.1 hy) hia hib ?_
  rw [(State.fieldFound?_type hia (hC.2.2.1 x hx)).1, (State.fieldFound?_type hib (hC.2.2.1 y hy)).1]
  exact hC.2.2.2 x hx y hy hne
theorem sv_putfield {index ci a : Nat} {T : vw_C} {ty : Nat → FieldType} {fs : List Value} {v : Value} (hd : decode M.2.1 pc = .ok (.putfield index, 3)) (hC : sCl g ci T ty) (k : Nat) (hk : k < T.2.2) (hw : sFl T M.1.cls index k ∈ sg_ws g) (hfin : (T.2.1 k).2.2.2 = false) (ha : a < hp.1) (he : hp.2 a = .inr (ci, fs)) (hn : ∀ b, narrow (ty k) (rv b v) = rv b v) (hft : ∀ b, fits (ty k) (rv b v) = true) (hlen : k < fs.length)
    (kk : sV g M R Z (pc + 3) lv st (hp.1, sUp hp.2 a (.inr (ci, fs.set k v))) ce sl) : sV g M R Z pc lv (v :: .ref a :: st) hp ce sl := by
  intro p e s m args below meth c H locs ls X r hl h
  obtain ⟨hx, hb, hr, hml, hown, hts, hK, hlk, hlw, hnm⟩ := id X
  have hap := sv_apart hts hC hK
  have h0 := r.2.1 a ha
  rw [he] at h0
  obtain ⟨r', h1, cell, q1, q2, q3, q4⟩ := h0
  have hr : r' = T := Option.some.inj (h1.symm.trans hC.1)
  subst hr
  obtain ⟨hS, hfc, kC, hkC, hkind⟩ := hK.1.1 ci _ hC.1
  obtain ⟨cf, kf, fi, f, hi, hsl⟩ := hS k hk
  have hlay := hts _ (hC.2.1 _ (u_in_lay hk))
  unfold u_lay at hlay
  rw [if_neg (by rw [hfin]; decide)] at hlay
  have hst := (u_facts hfc hkC (u_lays hts hC.2.1 hk) hi).1
  have h6 := u_store hfc hkC hkind hlay hi (hC.2.2.1 k hk) (hn (sg_r g)) (hft (sg_r g))
  refine W.putK hx hb (f := f) ⟨hown, hts _ hw, ⟨_, _, _, hi⟩, hst⟩ (by rw [q2]; exact h6) q1 q3 (by rw [hsl]; exact k2_hasslot (q4 k hk)) rfl rfl hd fun H' e1 e2 e3 => ?_
  rw [hsl] at e1 ⊢
  refine kk p e s m args below meth c H' _ ls X (r.put e2 e3 ⟨_, hC.1, t_OB.to (V := updV (fun j => rv (sg_r g) (vp_V fs j)) k (rv (sg_r g) v)) ⟨_, e1, q2, q3, t_set q4 hap hk _⟩ (fun j _ => ?_)⟩) (fun q hq => ?_) h
  · rw [vp_V_set hlen]
    simp only [updV]
    split <;> rfl
  · rcases List.mem_append.mp hq with hq | hq
    · exact hl q hq
    · rw [List.mem_singleton.mp hq]; exact Nat.le_add_right _ _
theorem sv_putfinal {index ci a : Nat} {T : vw_C} {ty : Nat → FieldType} {fs : List Value} {v : Value} (hd : decode M.2.1 pc = .ok (.putfield index, 3)) (hC : sCl g ci T ty) (k : Nat) (hk : k < T.2.2) (hw : sFl T M.1.cls index k ∈ sg_ws g) (hfin : (T.2.1 k).2.2.2 = true) (hini : M.1.name = "<init>") (hdecl : (T.2.1 k).1 = M.1.cls) (ha : a < hp.1) (he : hp.2 a = .inr (ci, fs)) (hn : ∀ b, narrow (ty k) (rv b v) = rv b v) (hft : ∀ b, fits (ty k) (rv b v) = true) (hlen : k < fs.length)
    (kk : sV g M R Z (pc + 3) lv st (hp.1, sUp hp.2 a (.inr (ci, fs.set k v))) ce sl) : sV g M R Z pc lv (v :: .ref a :: st) hp ce sl := by
  intro p e s m args below meth c H locs ls X r hl h
  obtain ⟨hx, hb, hr, hml, hown, hts, hK, hlk, hlw, hnm⟩ := id X
  have hap := sv_apart hts hC hK
  have h0 := r.2.1 a ha
  rw [he] at h0
  obtain ⟨r', h1, cell, q1, q2, q3, q4⟩ := h0
  have hr : r' = T := Option.some.inj (h1.symm.trans hC.1)
  subst hr
  obtain ⟨hS, hfc, kC, hkC, hkind⟩ := hK.1.1 ci _ hC.1
  obtain ⟨cf, kf, fi, f, hi, hsl⟩ := hS k hk
  have hlay := hts _ (hC.2.1 _ (u_in_lay hk))
  unfold u_lay at hlay
  rw [if_pos hfin] at hlay
  have hst := (u_facts hfc hkC (u_lays hts hC.2.1 hk) hi).1
  have hcf : m.cls = cf := by
    obtain ⟨_, _, c', _, _, _, -, -, hf', -, -, -, hown2, -⟩ := Cond.laysFinal_spec hlay
    have e1 : c' = cf := by have := hi.symm.trans hf'; simp at this; exact this.1.symm
    rw [hdecl] at hown2
    rw [← e1]; exact Option.some.inj (hown.symm.trans hown2)
  have h6 := u_fits hfc hkC hkind (Or.inr hlay) hi (hC.2.2.1 k hk) (hn (sg_r g)) (hft (sg_r g))
  refine W.putFinK hx hb hown (hts _ hw) hi hst hcf (hnm.trans hini) (by rw [q2]; exact h6) q1 q3 (by rw [hsl]; exact k2_hasslot (q4 k hk)) rfl rfl hd fun H' e1 e2 e3 => ?_
  rw [hsl] at e1 ⊢
  refine kk p e s m args below meth c H' _ ls X (r.put e2 e3 ⟨_, hC.1, t_OB.to (V := updV (fun j => rv (sg_r g) (vp_V fs j)) k (rv (sg_r g) v)) ⟨_, e1, q2, q3, t_set q4 hap hk _⟩ (fun j _ => ?_)⟩) (fun q hq => ?_) h
  · rw [vp_V_set hlen]
    simp only [updV]
    split <;> rfl
  · rcases List.mem_append.mp hq with hq | hq
    · exact hl q hq
    · rw [List.mem_singleton.mp hq]; exact Nat.le_add_right _ _
end SVH
end
section
/-! The layer's rules: arrays, new cells, returns, calls. -/
def sI (q : Nat → Int32) : Nat → Value := fun j => .int (q j)
def sJ (q : Nat → Int64) : Nat → Value := fun j => .long (q j)
def sP (q : Nat → Option Nat) : Nat → Value := fun j => va_rf (q j)
def sUpP (q : Nat → Option Nat) (k : Nat) (x : Option Nat) : Nat → Option Nat := fun j => if j = k then x else q j
theorem sI_up (q : Nat → Int32) (k : Nat) (x : Int32) : updV (sI q) k (.int x) = sI (upd q k x) := by
  funext j; simp only [updV, sI, upd]; split <;> rfl
theorem sJ_up (q : Nat → Int64) (k : Nat) (x : Int64) : updV (sJ q) k (.long x) = sJ (vp_updL q k x) := by
  funext j; simp only [updV, sJ, vp_updL]; split <;> rfl
theorem sP_up (q : Nat → Option Nat) (k : Nat) (x : Nat) : updV (sP q) k (.ref x) = sP (sUpP q k (some x)) := by
  funext j; simp only [updV, sP, sUpP]; split <;> rfl
theorem rv_up (b : Nat × Nat) (f : Nat → Value) (k : Nat) (v : Value) : (fun j => rv b (updV f k v j)) = updV (fun j => rv b (f j)) k (rv b v) := by
  funext j; simp only [updV]; split <;> rfl
section SVA
variable {g : sG} {M : sM} {R : Room} {Z : sZT} {pc : Nat} {lv : List (Nat × Value)} {st : List Value} {hp : sHp} {ce sl : Nat}
variable {a kd n : Nat} {cA : ClassId} {f : Nat → Value} {i : Int32}
theorem sArr {H : Heap} {s : State} {ty : FieldType} (r : sR g hp H) (hK : sK g s) (ha : a < hp.1) (he : hp.2 a = .inl (kd, n, f)) (ht : g.2.2.1[kd]? = some (cA, ty)) : H[sg_b g + a]? = some (arrV cA n (fun j => rv (sg_r g) (f j))) ∧ s.isArrayOf (arrV cA n (fun j => rv (sg_r g) (f j))) ty := by
  have h0 := r.2.1 a ha
  rw [he] at h0
  obtain ⟨cA', ty', h1, h2⟩ := h0
  cases ht.symm.trans h1
  exact ⟨h2, (hK.1.2 kd _ ht).1 n _⟩
theorem sIn (hin : vp_in i n) {z : Nat → Value} : ¬ (i < 0 ∨ (arrV cA n z).slots.size ≤ i.toNatClampNeg) := by rw [arrV_size]; exact hin
theorem sInL (hin : vp_in i n) : i.toNatClampNeg < n := Nat.not_le.mp fun q => hin (Or.inr q)
theorem sv_iaload {v : Value} (hd : decode M.2.1 pc = .ok (.iaload, 1)) (ht : g.2.2.1[kd]? = some (cA, .int)) (ha : a < hp.1) (he : hp.2 a = .inl (kd, n, f)) (hin : vp_in i n) (hv : f i.toNatClampNeg = v)
    (kk : sV g M R Z (pc + 1) lv (v :: st) hp ce sl) : sV g M R Z pc lv (.int i :: .ref a :: st) hp ce sl := by
  intro p e s m args below meth c H locs ls X r hl h
  obtain ⟨h1, h2⟩ := sArr r X.2.2.2.2.2.2.1 ha he ht
  exact W.iald (v := rv (sg_r g) v) X.1 X.2.1 h1 h2 (fun q => by cases q) (sIn hin) (by rw [arrV_read _ _ (sInL hin), ← hv]) rfl rfl hd (kk p e s m args below meth c H locs ls X r hl h)
theorem sv_baload {v : Value} (hd : decode M.2.1 pc = .ok (.baload, 1)) (ht : g.2.2.1[kd]? = some (cA, .byte)) (ha : a < hp.1) (he : hp.2 a = .inl (kd, n, f)) (hin : vp_in i n) (hv : f i.toNatClampNeg = v)
    (kk : sV g M R Z (pc + 1) lv (v :: st) hp ce sl) : sV g M R Z pc lv (.int i :: .ref a :: st) hp ce sl := by
  intro p e s m args below meth c H locs ls X r hl h
  obtain ⟨h1, h2⟩ := sArr r X.2.2.2.2.2.2.1 ha he ht
  exact W.bald (v := rv (sg_r g) v) X.1 X.2.1 h1 h2 (fun q => by cases q) (sIn hin) (by rw [arrV_read _ _ (sInL hin), ← hv]) rfl rfl hd (kk p e s m args below meth c H locs ls X r hl h)
theorem sv_zaload {v : Value} (hd : decode M.2.1 pc = .ok (.baload, 1)) (ht : g.2.2.1[kd]? = some (cA, .boolean)) (ha : a < hp.1) (he : hp.2 a = .inl (kd, n, f)) (hin : vp_in i n) (hv : f i.toNatClampNeg = v)
    (kk : sV g M R Z (pc + 1) lv (v :: st) hp ce sl) : sV g M R Z pc lv (.int i :: .ref a :: st) hp ce sl := by
  intro p e s m args below meth c H locs ls X r hl h
  obtain ⟨h1, h2⟩ := sArr r X.2.2.2.2.2.2.1 ha he ht
  exact W.zald (v := rv (sg_r g) v) X.1 X.2.1 h1 h2 (fun q => by cases q) (sIn hin) (by rw [arrV_read _ _ (sInL hin), ← hv]) rfl rfl hd (kk p e s m args below meth c H locs ls X r hl h)
theorem sv_laload {v : Value} (hd : decode M.2.1 pc = .ok (.laload, 1)) (ht : g.2.2.1[kd]? = some (cA, .long)) (ha : a < hp.1) (he : hp.2 a = .inl (kd, n, f)) (hin : vp_in i n) (hv : f i.toNatClampNeg = v)
    (kk : sV g M R Z (pc + 1) lv (v :: st) hp ce sl) : sV g M R Z pc lv (.int i :: .ref a :: st) hp ce sl := by
  intro p e s m args below meth c H locs ls X r hl h
  obtain ⟨h1, h2⟩ := sArr r X.2.2.2.2.2.2.1 ha he ht
  exact W.lald (v := rv (sg_r g) v) X.1 X.2.1 h1 h2 (fun q => by cases q) (sIn hin) (by rw [arrV_read _ _ (sInL hin), ← hv]) rfl rfl hd (kk p e s m args below meth c H locs ls X r hl h)
theorem sv_aaload {v : Value} {C0 : String} (hd : decode M.2.1 pc = .ok (.aaload, 1)) (ht : g.2.2.1[kd]? = some (cA, .object C0)) (ha : a < hp.1) (he : hp.2 a = .inl (kd, n, f)) (hin : vp_in i n) (hv : f i.toNatClampNeg = v)
    (kk : sV g M R Z (pc + 1) lv (v :: st) hp ce sl) : sV g M R Z pc lv (.int i :: .ref a :: st) hp ce sl := by
  intro p e s m args below meth c H locs ls X r hl h
  obtain ⟨h1, h2⟩ := sArr r X.2.2.2.2.2.2.1 ha he ht
  exact W.aald (v := rv (sg_r g) v) X.1 X.2.1 h1 h2 rfl (fun q => by cases q) (sIn hin) (by rw [arrV_read _ _ (sInL hin), ← hv]) rfl rfl hd (kk p e s m args below meth c H locs ls X r hl h)
theorem sv_arraylength {ty : FieldType} {v : Int32} (hd : decode M.2.1 pc = .ok (.arraylength, 1)) (ht : g.2.2.1[kd]? = some (cA, ty)) (ha : a < hp.1) (he : hp.2 a = .inl (kd, n, f)) (hv : Int32.ofNat n = v)
    (kk : sV g M R Z (pc + 1) lv (.int v :: st) hp ce sl) : sV g M R Z pc lv (.ref a :: st) hp ce sl := by
  intro p e s m args below meth c H locs ls X r hl h
  obtain ⟨h1, h2⟩ := sArr r X.2.2.2.2.2.2.1 ha he ht
  exact W.alen (n := v) X.1 X.2.1 h1 h2 (by rw [arrV_size, ← hv]) rfl rfl hd (kk p e s m args below meth c H locs ls X r hl h)
theorem sv_iastore {x : Int32} (hd : decode M.2.1 pc = .ok (.iastore, 1)) (ht : g.2.2.1[kd]? = some (cA, .int)) (ha : a < hp.1) (he : hp.2 a = .inl (kd, n, f)) (hin : vp_in i n)
    (kk : sV g M R Z (pc + 1) lv st (hp.1, sUp hp.2 a (.inl (kd, n, updV f i.toNatClampNeg (.int x)))) ce sl) : sV g M R Z pc lv (.int x :: .int i :: .ref a :: st) hp ce sl := by
  intro p e s m args below meth c H locs ls X r hl h
  obtain ⟨h1, h2⟩ := sArr r X.2.2.2.2.2.2.1 ha he ht
  refine W.iast X.1 X.2.1 h1 h2 (fun q => by cases q) (sIn hin) rfl rfl hd fun H1 e1 z oq => ?_
  refine kk p e s m args below meth c H1 _ ls X (r.put z oq ⟨cA, .int, ht, ?_⟩) (fun q hq => ?_) h
  · rw [e1, rv_up, arrV_store]
    rfl
  · rcases List.mem_append.mp hq with hq | hq
    · exact hl q hq
    · rw [List.mem_singleton.mp hq]; exact Nat.le_add_right _ _
theorem sv_bastore {x : Int32} (hd : decode M.2.1 pc = .ok (.bastore, 1)) (ht : g.2.2.1[kd]? = some (cA, .byte)) (ha : a < hp.1) (he : hp.2 a = .inl (kd, n, f)) (hin : vp_in i n)
    (kk : sV g M R Z (pc + 1) lv st (hp.1, sUp hp.2 a (.inl (kd, n, updV f i.toNatClampNeg (.int (vp_nar .byte x))))) ce sl) : sV g M R Z pc lv (.int x :: .int i :: .ref a :: st) hp ce sl := by
  intro p e s m args below meth c H locs ls X r hl h
  obtain ⟨h1, h2⟩ := sArr r X.2.2.2.2.2.2.1 ha he ht
  refine W.bast X.1 X.2.1 h1 h2 (fun q => by cases q) (sIn hin) rfl rfl hd fun H1 e1 z oq => ?_
  refine kk p e s m args below meth c H1 _ ls X (r.put z oq ⟨cA, .byte, ht, ?_⟩) (fun q hq => ?_) h
  · rw [e1, rv_up, arrV_store]
    rfl
  · rcases List.mem_append.mp hq with hq | hq
    · exact hl q hq
    · rw [List.mem_singleton.mp hq]; exact Nat.le_add_right _ _
theorem sv_zastore {x : Int32} (hd : decode M.2.1 pc = .ok (.bastore, 1)) (ht : g.2.2.1[kd]? = some (cA, .boolean)) (ha : a < hp.1) (he : hp.2 a = .inl (kd, n, f)) (hin : vp_in i n)
    (kk : sV g M R Z (pc + 1) lv st (hp.1, sUp hp.2 a (.inl (kd, n, updV f i.toNatClampNeg (.int (vp_nar .boolean x))))) ce sl) : sV g M R Z pc lv (.int x :: .int i :: .ref a :: st) hp ce sl := by
  intro p e s m args below meth c H locs ls X r hl h
  obtain ⟨h1, h2⟩ := sArr r X.2.2.2.2.2.2.1 ha he ht
  refine W.zast X.1 X.2.1 h1 h2 (fun q => by cases q) (sIn hin) rfl rfl hd fun H1 e1 z oq => ?_
  refine kk p e s m args below meth c H1 _ ls X (r.put z oq ⟨cA, .boolean, ht, ?_⟩) (fun q hq => ?_) h
  · rw [e1, rv_up, arrV_store]
    rfl
  · rcases List.mem_append.mp hq with hq | hq
    · exact hl q hq
    · rw [List.mem_singleton.mp hq]; exact Nat.le_add_right _ _
theorem sv_lastore {x : Int64} (hd : decode M.2.1 pc = .ok (.lastore, 1)) (ht : g.2.2.1[kd]? = some (cA, .long)) (ha : a < hp.1) (he : hp.2 a = .inl (kd, n, f)) (hin : vp_in i n)
    (kk : sV g M R Z (pc + 1) lv st (hp.1, sUp hp.2 a (.inl (kd, n, updV f i.toNatClampNeg (.long x)))) ce sl) : sV g M R Z pc lv (.long x :: .int i :: .ref a :: st) hp ce sl := by
  intro p e s m args below meth c H locs ls X r hl h
  obtain ⟨h1, h2⟩ := sArr r X.2.2.2.2.2.2.1 ha he ht
  refine W.last X.1 X.2.1 h1 h2 (fun q => by cases q) (sIn hin) rfl rfl hd fun H1 e1 z oq => ?_
  refine kk p e s m args below meth c H1 _ ls X (r.put z oq ⟨cA, .long, ht, ?_⟩) (fun q hq => ?_) h
  · rw [e1, rv_up, arrV_store]
    rfl
  · rcases List.mem_append.mp hq with hq | hq
    · exact hl q hq
    · rw [List.mem_singleton.mp hq]; exact Nat.le_add_right _ _
theorem sv_aastore {v ci : Nat} {T : vw_C} {ty : Nat → FieldType} {fs : List Value} (hd : decode M.2.1 pc = .ok (.aastore, 1)) (hC : sCl g ci T ty) (ht : g.2.2.1[kd]? = some (cA, .object T.1)) (ha : a < hp.1) (he : hp.2 a = .inl (kd, n, f)) (hin : vp_in i n) (hv : v < hp.1) (hev : hp.2 v = .inr (ci, fs))
    (kk : sV g M R Z (pc + 1) lv st (hp.1, sUp hp.2 a (.inl (kd, n, updV f i.toNatClampNeg (.ref v)))) ce sl) : sV g M R Z pc lv (.ref v :: .int i :: .ref a :: st) hp ce sl := by
  intro p e s m args below meth c H locs ls X r hl h
  have hK : sK g s := X.2.2.2.2.2.2.1
  obtain ⟨h1, h2⟩ := sArr r hK ha he ht
  have h0 := r.2.1 v hv
  rw [hev] at h0
  obtain ⟨r', hr', cellV, g1, g2, g3, -⟩ := h0
  have hcls := (hK.1.1 ci T hC.1).2
  obtain ⟨kA, comp, k1, k2, k3, -⟩ := (hK.1.2 kd _ ht).2
  have hcomp : comp = g.2.1.1 ci := Option.some.inj (k3.symm.trans hcls.1)
  subst hcomp
  obtain ⟨kC, hkC, -⟩ := id hcls.2
  refine W.aast X.1 X.2.1 h1 (fun q h => by cases h) (fun h => by cases h) k1 k2 rfl hkC ⟨fun q => hin (Or.inl q), by rw [arrV_size]; exact sInL hin⟩ g1 (fun q h => by rw [g3] at h; cases h) (by rw [g2]; exact hkC) (by rw [g2]; exact va_assign hcls) rfl rfl hd fun H1 e1 z oq => ?_
  refine kk p e s m args below meth c H1 _ ls X (r.put z oq ⟨cA, _, ht, ?_⟩) (fun q hq => ?_) h
  · rw [e1, rv_up, arrV_store]
    rfl
  · rcases List.mem_append.mp hq with hq | hq
    · exact hl q hq
    · rw [List.mem_singleton.mp hq]; exact Nat.le_add_right _ _
theorem sv_new {index ci : Nat} {T : vw_C} {ty : Nat → FieldType} {fs : List Value} (hd : decode M.2.1 pc = .ok (.new index, 3)) (hC : sCl g ci T ty) (hcl : Cond.classLink M.1.cls index T.1 ∈ sg_ws g) (hinst : Cond.instantiable T.1 T.2.2 ∈ sg_ws g) (hini : Cond.initialized T.1 ∈ sg_ws g) (hfs : ∀ b j, j < T.2.2 → defaultValue (ty j) = rv b (vp_V fs j)) (hc1 : ce + 1 ≤ R.cells) (hs1 : sl + T.2.2 ≤ R.slots)
    (kk : sV g M R Z (pc + 3) lv (.ref hp.1 :: st) (hp.1 + 1, sUp hp.2 hp.1 (.inr (ci, fs))) (ce + 1) (sl + T.2.2)) : sV g M R Z pc lv st hp ce sl := by
  intro p e s m args below meth c H locs ls X r hl h
  obtain ⟨hx, hb, hr, hml, hown, hts, hK, hlk, hlw, hnm⟩ := id X
  have hKn := hK.1.1 ci _ hC.1
  refine W.newcK hx hb hown (hts _ hcl) (hts _ hinst) (hts _ hini) rfl hd hc1 hs1 hKn.2.1 rfl fun H1 kC hkC e1 z1 o1 => ?_
  have hz := r.1
  have hR : sR g (hp.1 + 1, sUp hp.2 hp.1 (.inr (ci, fs))) H1 := r.push z1 o1 ⟨T, hC.1, (u_born ty hts hC.2.1 hKn hkC (by rw [← hz]; exact e1) hC.2.2.1).to (hfs (sg_r g))⟩
  have := kk p e s m args below meth c H1 locs ls X hR hl h
  rw [show (Value.ref hp.1 :: st).map (rv (sg_r g)) = .ref (sg_b g + hp.1) :: st.map (rv (sg_r g)) from rfl, ← hz] at this
  exact this
theorem sv_newarray {atype : ArrayType} {x : Int32} {ty : FieldType} {N : Nat} {v : Value} (hd : decode M.2.1 pc = .ok (.newarray atype, 2)) (hty : newarray.typeOf atype = ty) (hw : Cond.arrayClass ty ∈ sg_ws g) (ht : g.2.2.1[kd]? = some (cA, ty)) (hra : ∀ U : State, va_RA U cA ty → U.vm.findClass ("[" ++ ty.toString) = some cA) (hn : ¬ x < 0) (hN : x.toNatClampNeg = N) (hby : N * componentBytes ty ≤ 536870912) (hv : ∀ b, defaultValue ty = rv b v) (hc1 : ce + 1 ≤ R.cells) (hs1 : sl + N ≤ R.slots)
    (kk : sV g M R Z (pc + 2) lv (.ref hp.1 :: st) (hp.1 + 1, sUp hp.2 hp.1 (.inl (kd, N, fun _ => v))) (ce + 1) (sl + N)) : sV g M R Z pc lv (.int x :: st) hp ce sl := by
  subst hty
  intro p e s m args below meth c H locs ls X r hl h
  obtain ⟨hx, hb, hr, hml, hown, hts, hK, hlk, hlw, hnm⟩ := id X
  refine va_newaK hx hb (hts _ hw) rfl hd rfl hn hN hby hc1 hs1 rfl fun H1 cA' e1 z1 o1 hAr hNm => ?_
  have hcc : cA' = cA := Option.some.inj (hNm.symm.trans (hra s (hK.1.2 kd _ ht).2))
  subst hcc
  have hz := r.1
  have hR : sR g (hp.1 + 1, sUp hp.2 hp.1 (.inl (kd, N, fun _ => v))) H1 := r.push z1 o1 ⟨cA', _, ht, by rw [← hz, e1, hv (sg_r g)]⟩
  have := kk p e s m args below meth c H1 locs ls X hR hl h
  rw [show (Value.ref hp.1 :: st).map (rv (sg_r g)) = .ref (sg_b g + hp.1) :: st.map (rv (sg_r g)) from rfl, ← hz] at this
  exact this
theorem sv_anewarray {index : Nat} {x : Int32} {C0 : String} {N : Nat} (hd : decode M.2.1 pc = .ok (.anewarray index, 3)) (hcl : Cond.classLink M.1.cls index C0 ∈ sg_ws g) (ht : g.2.2.1[kd]? = some (cA, .object C0)) (hn : ¬ x < 0) (hN : x.toNatClampNeg = N) (hby : N * 4 ≤ 536870912) (hc1 : ce + 1 ≤ R.cells) (hs1 : sl + N ≤ R.slots)
    (kk : sV g M R Z (pc + 3) lv (.ref hp.1 :: st) (hp.1 + 1, sUp hp.2 hp.1 (.inl (kd, N, fun _ => .null))) (ce + 1) (sl + N)) : sV g M R Z pc lv (.int x :: st) hp ce sl := by
  subst hN
  intro p e s m args below meth c H locs ls X r hl h
  obtain ⟨hx, hb, hr, hml, hown, hts, hK, hlk, hlw, hnm⟩ := id X
  refine W.anew hx hb hown (hts _ hcl) (va_AO.use (hK.2.1 kd _ _ ht)) rfl hd rfl hn hby hc1 hs1 fun cA' kA comp h1 h2 h3 h4 => ?_
  obtain ⟨-, kA2, comp2, g1, g2, g3, g4⟩ := hK.1.2 kd _ ht
  have hcc : cA' = cA := Option.some.inj (h1.symm.trans g4)
  subst hcc
  have hz := r.1
  have hR : sR g (hp.1 + 1, sUp hp.2 hp.1 (.inl (kd, x.toNatClampNeg, fun _ => .null))) (H.push { cls := cA', slots := Array.replicate x.toNatClampNeg .null, vm := .none }) := by
    refine r.push (by simp) (fun q hq => ?_) ⟨cA', _, ht, ?_⟩
    · rw [Array.getElem?_push, if_neg (Nat.ne_of_lt hq)]
    · rw [← hz, arrV_new]
      simp
      rfl
  have := kk p e s m args below meth c _ locs ls X hR hl h
  rw [show (Value.ref hp.1 :: st).map (rv (sg_r g)) = .ref (sg_b g + hp.1) :: st.map (rv (sg_r g)) from rfl, ← hz] at this
  exact this
/-! the script -/
theorem sv_sld {x : Nat} (hd : decode M.2.1 pc = .ok (.iaload, 1)) (hin : vp_in i (sg_L g)) (kk : sV g M R Z (pc + 1) lv (.int (sg_xs g i.toNatClampNeg) :: st) hp ce sl) : sV g M R Z pc lv (.int i :: .retAddr x :: st) hp ce sl := by
  intro p e s m args below meth c H locs ls X r hl h
  obtain ⟨scr, h1, h2, h3, h4, h5⟩ := X.2.2.2.2.2.2.1.2.2
  have hlt : i.toNatClampNeg < sg_L g := Nat.not_le.mp fun q => hin (Or.inr q)
  exact W.iald (v := .int (sg_xs g i.toNatClampNeg)) X.1 X.2.1 (by rw [r.2.2 _ (Array.getElem?_eq_some_iff.mp h1).1]; exact h1) h2 h3 (by rw [h4]; exact hin) (h5 _ hlt) rfl rfl hd (kk p e s m args below meth c H locs ls X r hl h)
theorem sv_slen {x : Nat} (hd : decode M.2.1 pc = .ok (.arraylength, 1)) (kk : sV g M R Z (pc + 1) lv (.int (Int32.ofNat (sg_L g)) :: st) hp ce sl) : sV g M R Z pc lv (.retAddr x :: st) hp ce sl := by
  intro p e s m args below meth c H locs ls X r hl h
  obtain ⟨scr, h1, h2, h3, h4, h5⟩ := X.2.2.2.2.2.2.1.2.2
  exact W.alen (n := Int32.ofNat (sg_L g)) X.1 X.2.1 (by rw [r.2.2 _ (Array.getElem?_eq_some_iff.mp h1).1]; exact h1) h2 (by rw [h4] <;> rfl) rfl rfl hd (kk p e s m args below meth c H locs ls X r hl h)
/-! returns -/
theorem sv_iret {C S : Nat} {Q : Option Value → sHp → Prop} {v : Int32} (hd : decode M.2.1 pc = .ok (.ireturn, 1)) (hret : M.2.2.2 = some .int) (hc : ce ≤ C) (hs : sl ≤ S) (hq : Q (some (.int v)) hp) : sV g M R (sZ g C S Q) pc lv [.int v] hp ce sl := by
  intro p e s m args below meth c H locs ls X r hl h
  obtain ⟨hx, hb, hr, hml, hown, hts, hK, hlk, hlw, hnm⟩ := id X
  exact W.widen hc hs (W.iret (v := v) hx hb (hr.trans hret) (fun t ht hW => ⟨some (.int v), hp, rfl, hq, by rw [ht]; exact r, hK.moved hW.alike⟩) hl hd hlk)
theorem sv_zret {C S : Nat} {Q : Option Value → sHp → Prop} {v : Int32} {ty : FieldType} (hd : decode M.2.1 pc = .ok (.ireturn, 1)) (hret : M.2.2.2 = some ty) (hn : narrow ty (.int v) = .int v) (hc : ce ≤ C) (hs : sl ≤ S) (hq : Q (some (.int v)) hp) : sV g M R (sZ g C S Q) pc lv [.int v] hp ce sl := by
  intro p e s m args below meth c H locs ls X r hl h
  obtain ⟨hx, hb, hr, hml, hown, hts, hK, hlk, hlw, hnm⟩ := id X
  exact W.widen hc hs (W.zret (v := v) hx hb (hr.trans hret) hn (fun t ht hW => ⟨some (.int v), hp, rfl, hq, by rw [ht]; exact r, hK.moved hW.alike⟩) hl hd hlk)
theorem sv_lret {C S : Nat} {Q : Option Value → sHp → Prop} {v : Int64} (hd : decode M.2.1 pc = .ok (.lreturn, 1)) (hret : M.2.2.2 = some .long) (hc : ce ≤ C) (hs : sl ≤ S) (hq : Q (some (.long v)) hp) : sV g M R (sZ g C S Q) pc lv [.long v] hp ce sl := by
  intro p e s m args below meth c H locs ls X r hl h
  obtain ⟨hx, hb, hr, hml, hown, hts, hK, hlk, hlw, hnm⟩ := id X
  exact W.widen hc hs (W.lret (v := v) hx hb (hr.trans hret) (fun t ht hW => ⟨some (.long v), hp, rfl, hq, by rw [ht]; exact r, hK.moved hW.alike⟩) hl hd hlk)
theorem sv_vret {C S : Nat} {Q : Option Value → sHp → Prop} (hd : decode M.2.1 pc = .ok (.return_, 1)) (hret : M.2.2.2 = none) (hc : ce ≤ C) (hs : sl ≤ S) (hq : Q none hp) : sV g M R (sZ g C S Q) pc lv [] hp ce sl := by
  intro p e s m args below meth c H locs ls X r hl h
  obtain ⟨hx, hb, hr, hml, hown, hts, hK, hlk, hlw, hnm⟩ := id X
  exact W.widen hc hs (W.vret hx hb (hr.trans hret) (fun t ht hW => ⟨none, hp, rfl, hq, by rw [ht]; exact r, hK.moved hW.alike⟩) hl hd hlk)
theorem sv_aret {C S : Nat} {Q : Option Value → sHp → Prop} {a : Nat} {C0 : String} (hd : decode M.2.1 pc = .ok (.areturn, 1)) (hret : M.2.2.2 = some (.object C0)) (hc : ce ≤ C) (hs : sl ≤ S) (hq : Q (some (.ref a)) hp) : sV g M R (sZ g C S Q) pc lv [.ref a] hp ce sl := by
  intro p e s m args below meth c H locs ls X r hl h
  obtain ⟨hx, hb, hr, hml, hown, hts, hK, hlk, hlw, hnm⟩ := id X
  exact W.widen hc hs (W.aret (v := .ref (sg_b g + a)) hx hb (hr.trans hret) (Or.inl ⟨_, rfl⟩) (Or.inr ⟨_, rfl⟩) (fun t ht hW => ⟨some (.ref a), hp, rfl, hq, by rw [ht]; exact r, hK.moved hW.alike⟩) hl hd hlk)
end SVA
end
section
/-! The layer's rules: calls. -/
/-- all words are good ones -/
def sOk (g : sG) : Prop := ∀ w ∈ sg_ws g, (w.onTables && w.keeps) = true ∨ ∃ ty, w = .arrayClass ty
/-- a method that can be called: its code and its class's state are among the words; n parameters -/
def sMt (g : sG) (M : sM) (n : Nat) : Prop := Cond.code M.1 M.2.1 M.2.2.1 M.2.2.2 ∈ sg_ws g ∧ Cond.initialized M.1.cls ∈ sg_ws g ∧ (M.1.cls ≠ "java/lang/invoke/MethodHandle" ∧ M.1.cls ≠ "java/lang/invoke/VarHandle" ∧ (parseMethodDescriptor M.1.desc).map (fun d => d.parameters.length) = some n)
theorem sGood {g : sG} {M' : sM} (ho : sOk g) (hc : Cond.code M'.1 M'.2.1 M'.2.2.1 M'.2.2.2 ∈ sg_ws g) : GoodIn (sg_ws g) (sWs g M') := by
  intro w hw
  rcases List.mem_cons.mp hw with rfl | hw
  · exact ⟨hc, ho _ hc⟩
  · exact ⟨hw, ho _ hw⟩
section SVC
variable {g : sG} {M M' : sM} {R : Room} {Z : sZT} {d' C' S' : Nat} {Q' : Option Value → sHp → Prop} {pc : Nat} {lv : List (Nat × Value)} {st st0 av : List Value} {hp : sHp} {ce sl : Nat}
theorem sBlind : FrameBlind (fun (a : Array Value) (U : State) => a = (av.map (rv (sg_r g))).toArray ∧ sR g hp U.heap ∧ sK g U) := fun a U g2 mk q => ⟨q.1, q.2.1, sK.moved (u := U) (U := U.calling g2 mk a) (Vm.Alike.refl U.vm) q.2.2⟩
theorem sGo {p : Program} {e : Env} {s : State} {m : MethodId} {args : Array Value} {below : List Frame} {meth : Method} {c : Code} {H : Heap} {locs : List Loc} {ls : Array Slot} {a : Array Value}
    (hr : va_Run p g.1 e R s m args below meth c H locs ce sl C' S' (F0 m pc ls (st0.map (rv (sg_r g)))) (st.map (rv (sg_r g))) (sQ g Q' a) (fun q => sg_b g ≤ q)) (X : sX g M p s m args meth c) (hl : ∀ q ∈ locs, sg_b g ≤ q.base) (h : sHas (sg_r g) ls M.2.2.1 lv)
    (kk : ∀ (r : Option Value) (hp' : sHp), Q' r hp' → sV g M R Z (pc + 3) lv (r.toList ++ st) hp' (ce + C') (sl + S')) : W p g.1 e R s m args below meth c H locs ce sl (Z below args s) (F0 m pc ls (st0.map (rv (sg_r g)))) := by
  intro T hT X1
  obtain ⟨v, st₀, t, T', L, h0, X', hL, e1, e2, ⟨r, hp', hv, hq, hR, hK⟩, stp⟩ := hr T hT X1
  cases hv
  obtain ⟨t2, a1, b1⟩ := kk r hp' hq p e s m args below meth c T'.heap (locs ++ L) ls X (by rw [e1]; exact hR) (fun q hq => by
    rcases List.mem_append.mp hq with h | h
    · exact hl q h
    · exact hL q h) h T' rfl X'
  refine ⟨t2, stp t2 ?_, b1⟩
  have he : ((r.map (rv (sg_r g))).toList ++ st.map (rv (sg_r g))) = (r.toList ++ st).map (rv (sg_r g)) := by cases r <;> rfl
  rw [he]
  exact a1
theorem sRoom {st : List Value} {b : Nat × Nat} (h : (st.map fun v => v.category).sum ≤ 8) : ((st.map (rv b)).map fun v => v.category).sum ≤ 8 := by
  rw [List.map_map]
  have : ((fun v : Value => v.category) ∘ rv b) = fun v => v.category := by funext v; exact rv_cat b v
  rw [this]; exact h
theorem sv_callV {index ci a : Nat} {T : vw_C} {ty : Nat → FieldType} {fs : List Value} (hct : sC g M' d' C' S' (.ref a :: av) hp Q') (ho : sOk g) (hd : decode M.2.1 pc = .ok (.invokevirtual index, 3)) (hm : sMt g M' av.length) (hi : Cond.instanceMethod M'.1 ∈ sg_ws g ∧ Cond.selects M'.1.cls M'.1 M'.1 ∈ sg_ws g) (hlk : Cond.methodLink M.1.cls index M'.1 ∈ sg_ws g) (hC : sCl g ci T ty) (hT : T.1 = M'.1.cls) (ha : a < hp.1) (he : hp.2 a = .inr (ci, fs)) (hR : d' + 1 ≤ R.frames ∧ 60 * d' + M'.2.2.1 + 19 ≤ R.locals) (hf : ce + C' ≤ R.cells ∧ sl + S' ≤ R.slots) (hs : st0 = av.reverse ++ .ref a :: st) (hr8 : (st.map fun v => v.category).sum ≤ 8)
    (kk : ∀ (r : Option Value) (hp' : sHp), Q' r hp' → sV g M R Z (pc + 3) lv (r.toList ++ st) hp' (ce + C') (sl + S')) : sV g M R Z pc lv st0 hp ce sl := by
  subst hs
  intro p e s m args below meth c H locs ls X r hl h
  obtain ⟨hx, hb, hr, hml, hown, hts, hK, hlk2, hlw, hnm⟩ := id X
  have h0 := r.2.1 a ha
  rw [he] at h0
  obtain ⟨r', h1, cell, q1, q2, q3, q4⟩ := h0
  have hr' : r' = T := Option.some.inj (h1.symm.trans hC.1)
  subst hr'
  have hrun := va_runV (g := F0 m pc ls ((av.reverse ++ .ref a :: st).map (rv (sg_r g)))) (b := sg_b g + a) (As := av.map (rv (sg_r g))) (rest := st.map (rv (sg_r g))) (H := H) (locs := locs) (cells := ce) (slots := sl) (below := below) (meth := meth) (e := e) ⟨hx, hb, hml, hown, hts⟩ hct
    (⟨callB_of av.length hts (sGood ho hm.1) rfl rfl rfl (hts _ hm.2.1) (hts _ hlk) hm.2.2 ⟨hR.1, by show 8 + (M'.2.2.1 + 11) + 60 * d' ≤ R.locals; omega⟩, hts _ hi.1, hts _ hi.2⟩ : CallW R s args M.1.cls M'.1.cls index M'.1 M'.2.1 M'.2.2.1 M'.2.2.2 (sWs g M') (sRm d' C' S') C' S' av.length)
    ⟨sBlind, ⟨cell, q1, by rw [q3]; rfl, by rw [q2, ← hT]; exact (hK.1.1 ci _ hC.1).2.1⟩, fun U hU hW => ⟨rfl, by rw [hU]; exact r, hK.moved hW.alike⟩⟩ rfl (by simp) h.1 (by simp [rv]) (lv_room (sRoom hr8)) hd hf
  exact sGo hrun X hl h kk
theorem sv_callS {index : Nat} (hct : sC g M' d' C' S' av hp Q') (ho : sOk g) (hd : decode M.2.1 pc = .ok (.invokestatic index, 3)) (hm : sMt g M' av.length) (hi : Cond.static M'.1 ∈ sg_ws g) (hlk : Cond.methodLink M.1.cls index M'.1 ∈ sg_ws g) (hR : d' + 1 ≤ R.frames ∧ 60 * d' + M'.2.2.1 + 19 ≤ R.locals) (hf : ce + C' ≤ R.cells ∧ sl + S' ≤ R.slots) (hs : st0 = av.reverse ++ st) (hr8 : (st.map fun v => v.category).sum ≤ 8)
    (kk : ∀ (r : Option Value) (hp' : sHp), Q' r hp' → sV g M R Z (pc + 3) lv (r.toList ++ st) hp' (ce + C') (sl + S')) : sV g M R Z pc lv st0 hp ce sl := by
  subst hs
  intro p e s m args below meth c H locs ls X r hl h
  obtain ⟨hx, hb, hr, hml, hown, hts, hK, hlk2, hlw, hnm⟩ := id X
  have hrun := va_runS (g := F0 m pc ls ((av.reverse ++ st).map (rv (sg_r g)))) (As := av.map (rv (sg_r g))) (rest := st.map (rv (sg_r g))) (H := H) (locs := locs) (cells := ce) (slots := sl) (below := below) (meth := meth) (e := e) ⟨hx, hb, hml, hown, hts⟩ hct
    (⟨callB_of av.length hts (sGood ho hm.1) rfl rfl rfl (hts _ hm.2.1) (hts _ hlk) hm.2.2 ⟨hR.1, by show 8 + (M'.2.2.1 + 11) + 60 * d' ≤ R.locals; omega⟩, hts _ hi⟩ : CallB R s args M.1.cls index M'.1 M'.2.1 M'.2.2.1 M'.2.2.2 (sWs g M') (sRm d' C' S') C' S' av.length ∧ (Cond.static M'.1).before args s = true)
    ⟨sBlind, fun U hU hW => ⟨rfl, by rw [hU]; exact r, hK.moved hW.alike⟩⟩ rfl (by simp) h.1 (by simp) (lv_room (sRoom hr8)) hd hf
  exact sGo hrun X hl h kk
theorem sv_callI {index a : Nat} (hct : sC g M' d' C' S' (.ref a :: av) hp Q') (ho : sOk g) (hd : decode M.2.1 pc = .ok (.invokespecial index, 3)) (hm : sMt g M' av.length) (hret : M'.2.2.2 = none) (hy1 : M'.1.name = "<init>") (hi : Cond.instanceMethod M'.1 ∈ sg_ws g) (hlk : Cond.methodLink M.1.cls index M'.1 ∈ sg_ws g) (hR : d' + 1 ≤ R.frames ∧ 60 * d' + M'.2.2.1 + 19 ≤ R.locals) (hf : ce + C' ≤ R.cells ∧ sl + S' ≤ R.slots) (hs : st0 = av.reverse ++ .ref a :: st) (hr8 : (st.map fun v => v.category).sum ≤ 8)
    (kk : ∀ (r : Option Value) (hp' : sHp), Q' r hp' → sV g M R Z (pc + 3) lv (r.toList ++ st) hp' (ce + C') (sl + S')) : sV g M R Z pc lv st0 hp ce sl := by
  subst hs
  intro p e s m args below meth c H locs ls X r hl h
  obtain ⟨hx, hb, hr, hml, hown, hts, hK, hlk2, hlw, hnm⟩ := id X
  have hcode : Cond.code M'.1 M'.2.1 M'.2.2.1 none ∈ sg_ws g := by rw [← hret]; exact hm.1
  have hw : sWs g M' = Cond.code M'.1 M'.2.1 M'.2.2.1 none :: sg_ws g := by rw [← hret]; rfl
  have hrun := va_runI (g := F0 m pc ls ((av.reverse ++ .ref a :: st).map (rv (sg_r g)))) (b := sg_b g + a) (As := av.map (rv (sg_r g))) (rest := st.map (rv (sg_r g))) (H := H) (locs := locs) (cells := ce) (slots := sl) (below := below) (meth := meth) (e := e) ⟨hx, hb, hml, hown, hts⟩ hct
    (⟨callB_of av.length hts (sGood ho hm.1) hw rfl rfl (hts _ hm.2.1) (hts _ hlk) hm.2.2 ⟨hR.1, by show 8 + (M'.2.2.1 + 11) + 60 * d' ≤ R.locals; omega⟩, hy1, hts _ hi⟩ : CallB R s args M.1.cls index M'.1 M'.2.1 M'.2.2.1 none (sWs g M') (sRm d' C' S') C' S' av.length ∧ M'.1.name = "<init>" ∧ (Cond.instanceMethod M'.1).before args s = true)
    ⟨sBlind, fun U hU hW => ⟨rfl, by rw [hU]; exact r, hK.moved hW.alike⟩⟩ rfl (by simp) h.1 (by simp [rv]) (lv_room (sRoom hr8)) hd hf
  exact sGo hrun X hl h kk
theorem sv_objinit {index a : Nat} (hd : decode M.2.1 pc = .ok (.invokespecial index, 3)) (hlk : Cond.methodLink M.1.cls index objectInit ∈ sg_ws g) (hi : Cond.instanceMethod objectInit ∈ sg_ws g) (hc : Cond.code objectInit ⟨#[0xb1]⟩ 1 none ∈ sg_ws g) (hd1 : 1 ≤ R.frames ∧ 20 ≤ R.locals) (hr8 : (st.map fun v => v.category).sum ≤ 8)
    (kk : sV g M R Z (pc + 3) lv st hp ce sl) : sV g M R Z pc lv (.ref a :: st) hp ce sl := by
  intro p e s m args below meth c H locs ls X r hl h
  obtain ⟨hx, hb, hr, hml, hown, hts, hK, hlk2, hlw, hnm⟩ := id X
  refine W.objInit hx hb hown (hts _ hlk) (hts _ hi) (hts _ hc) rfl (by rw [hml]; exact h.1) rfl hd hd1.1 ?_ (kk p e s m args below meth c H locs ls X r hl h)
  have h8 := lv_room (m := m) (pc := pc) (ls := ls) (rest := (Value.ref a :: st).map (rv (sg_r g))) (sRoom (b := sg_r g) hr8)
  have := hd1.2
  omega
end SVC
end
section
def RX0 : String := "DomainHouse$Domain"
def TX0 : u_T := fun k => match k with
  | 0 => ("DomainHouse$Domain", "steps", "[I", true)
  | 1 => ("DomainHouse$Domain", "begun", "[I", true)
  | 2 => ("DomainHouse$Domain", "pickedTie", "[I", true)
  | 3 => ("DomainHouse$Domain", "picked", "[LDomainHouse$Route;", true)
  | 4 => ("DomainHouse$Domain", "stepCount", "I", false)
  | _ => ("DomainHouse$Domain", "grouped", "Z", false)
def tyX0 : Nat → FieldType := fun k => match k with
  | 0 => .array .int
  | 1 => .array .int
  | 2 => .array .int
  | 3 => .array (.object "DomainHouse$Route")
  | 4 => .int
  | _ => .boolean
theorem nmX0 : ∀ a, a < 6 → ∀ b, b < 6 → a ≠ b → (TX0 a).2.1 ≠ (TX0 b).2.1 := by decide +kernel
theorem tyX0_ok : ∀ k, k < 6 → parseFieldDescriptor (TX0 k).2.2.1 = some (tyX0 k) := by decide +kernel
abbrev cX0_init : ByteArray := prog_2_method_1_code
def yX0_init : MethodName := ⟨RX0, "<init>", "()V"⟩
abbrev cX0_goBy : ByteArray := prog_2_method_2_code
def yX0_goBy : MethodName := ⟨RX0, "goBy", "(IZ)V"⟩
abbrev cX0_firstUnlikeStep : ByteArray := prog_2_method_3_code
def yX0_firstUnlikeStep : MethodName := ⟨RX0, "firstUnlikeStep", "(LDomainHouse$Route;LDomainHouse$Route;)I"⟩
abbrev cX0_prefers : ByteArray := prog_2_method_4_code
def yX0_prefers : MethodName := ⟨RX0, "prefers", "(LDomainHouse$Route;LDomainHouse$Route;)Z"⟩
abbrev cX0_compareAt : ByteArray := prog_2_method_5_code
def yX0_compareAt : MethodName := ⟨RX0, "compareAt", "(ILDomainHouse$Route;LDomainHouse$Route;)I"⟩
def RX1 : String := "DomainHouse$Judge"
def TX1 : u_T := fun k => match k with
  | 0 => ("DomainHouse$Judge", "world", "LDomainHouse$World;", true)
  | 1 => ("DomainHouse$Judge", "texts", "[LDomainHouse$Policy;", true)
  | 2 => ("DomainHouse$Judge", "route", "LDomainHouse$Route;", false)
  | 3 => ("DomainHouse$Judge", "domain", "I", false)
  | 4 => ("DomainHouse$Judge", "partner", "I", false)
  | 5 => ("DomainHouse$Judge", "role", "I", false)
  | 6 => ("DomainHouse$Judge", "acts", "I", false)
  | 7 => ("DomainHouse$Judge", "ending", "I", false)
  | _ => ("DomainHouse$Judge", "policies", "I", false)
def tyX1 : Nat → FieldType := fun k => match k with
  | 0 => .object "DomainHouse$World"
  | 1 => .array (.object "DomainHouse$Policy")
  | 2 => .object "DomainHouse$Route"
  | 3 => .int
  | 4 => .int
  | 5 => .int
  | 6 => .int
  | 7 => .int
  | _ => .int
theorem nmX1 : ∀ a, a < 9 → ∀ b, b < 9 → a ≠ b → (TX1 a).2.1 ≠ (TX1 b).2.1 := by decide +kernel
theorem tyX1_ok : ∀ k, k < 9 → parseFieldDescriptor (TX1 k).2.2.1 = some (tyX1 k) := by decide +kernel
abbrev cX1_init : ByteArray := prog_3_method_1_code
def yX1_init : MethodName := ⟨RX1, "<init>", "(LDomainHouse$World;)V"⟩
abbrev cX1_addPolicy : ByteArray := prog_3_method_2_code
def yX1_addPolicy : MethodName := ⟨RX1, "addPolicy", "(LDomainHouse$Policy;)I"⟩
abbrev cX1_lets : ByteArray := prog_3_method_3_code
def yX1_lets : MethodName := ⟨RX1, "lets", "(ILDomainHouse$Route;LDomainHouse$Tie;I)Z"⟩
abbrev cX1_goThrough : ByteArray := prog_3_method_4_code
def yX1_goThrough : MethodName := ⟨RX1, "goThrough", "(II)V"⟩
abbrev cX1_isSo : ByteArray := prog_3_method_5_code
def yX1_isSo : MethodName := ⟨RX1, "isSo", "(LDomainHouse$Policy;I)Z"⟩
abbrev cX1_doActs : ByteArray := prog_3_method_6_code
def yX1_doActs : MethodName := ⟨RX1, "doActs", "([IIII)V"⟩
def RX2 : String := "DomainHouse$Letters"
def TX2 : u_T := fun k => match k with
  | 0 => ("DomainHouse$Letters", "world", "LDomainHouse$World;", true)
  | 1 => ("DomainHouse$Letters", "stops", "[I", true)
  | 2 => ("DomainHouse$Letters", "demandFrom", "[I", true)
  | 3 => ("DomainHouse$Letters", "demandAddress", "[I", true)
  | 4 => ("DomainHouse$Letters", "demandUnits", "[I", true)
  | 5 => ("DomainHouse$Letters", "border", "[J", true)
  | 6 => ("DomainHouse$Letters", "stopCount", "I", false)
  | 7 => ("DomainHouse$Letters", "entries", "I", false)
  | 8 => ("DomainHouse$Letters", "ledTo", "[I", true)
  | 9 => ("DomainHouse$Letters", "ledCount", "I", false)
  | _ => ("DomainHouse$Letters", "demands", "I", false)
def tyX2 : Nat → FieldType := fun k => match k with
  | 0 => .object "DomainHouse$World"
  | 1 => .array .int
  | 2 => .array .int
  | 3 => .array .int
  | 4 => .array .int
  | 5 => .array .long
  | 6 => .int
  | 7 => .int
  | 8 => .array .int
  | 9 => .int
  | _ => .int
theorem nmX2 : ∀ a, a < 11 → ∀ b, b < 11 → a ≠ b → (TX2 a).2.1 ≠ (TX2 b).2.1 := by decide +kernel
theorem tyX2_ok : ∀ k, k < 11 → parseFieldDescriptor (TX2 k).2.2.1 = some (tyX2 k) := by decide +kernel
abbrev cX2_init : ByteArray := prog_4_method_1_code
def yX2_init : MethodName := ⟨RX2, "<init>", "(LDomainHouse$World;)V"⟩
abbrev cX2_tieFor : ByteArray := prog_4_method_2_code
def yX2_tieFor : MethodName := ⟨RX2, "tieFor", "(II)I"⟩
abbrev cX2_partnerFor : ByteArray := prog_4_method_3_code
def yX2_partnerFor : MethodName := ⟨RX2, "partnerFor", "(II)I"⟩
abbrev cX2_travel : ByteArray := prog_4_method_4_code
def yX2_travel : MethodName := ⟨RX2, "travel", "(II)I"⟩
abbrev cX2_send : ByteArray := prog_4_method_5_code
def yX2_send : MethodName := ⟨RX2, "send", "(II)I"⟩
abbrev cX2_addDemand : ByteArray := prog_4_method_6_code
def yX2_addDemand : MethodName := ⟨RX2, "addDemand", "(III)I"⟩
abbrev cX2_unitsOver : ByteArray := prog_4_method_7_code
def yX2_unitsOver : MethodName := ⟨RX2, "unitsOver", "(II)I"⟩
abbrev cX2_unitsThat : ByteArray := prog_4_method_8_code
def yX2_unitsThat : MethodName := ⟨RX2, "unitsThat", "(I)I"⟩
abbrev cX2_leastTable : ByteArray := prog_4_method_9_code
def yX2_leastTable : MethodName := ⟨RX2, "leastTable", "(I)I"⟩
abbrev cX2_leastBelow : ByteArray := prog_4_method_10_code
def yX2_leastBelow : MethodName := ⟨RX2, "leastBelow", "(III)I"⟩
abbrev cX2_isSplit : ByteArray := prog_4_method_11_code
def yX2_isSplit : MethodName := ⟨RX2, "isSplit", "(III)Z"⟩
abbrev cX2_aimBit : ByteArray := prog_4_method_12_code
def yX2_aimBit : MethodName := ⟨RX2, "aimBit", "(I)I"⟩
abbrev cX2_unlikeAddresses : ByteArray := prog_4_method_13_code
def yX2_unlikeAddresses : MethodName := ⟨RX2, "unlikeAddresses", "(II)J"⟩
abbrev cX2_layBorders : ByteArray := prog_4_method_14_code
def yX2_layBorders : MethodName := ⟨RX2, "layBorders", "()I"⟩
abbrev cX2_insertBorder : ByteArray := prog_4_method_15_code
def yX2_insertBorder : MethodName := ⟨RX2, "insertBorder", "(JI)V"⟩
def RX3 : String := "DomainHouse$Message"
def TX3 : u_T := fun k => match k with
  | 0 => ("DomainHouse$Message", "seen", "[I", true)
  | 1 => ("DomainHouse$Message", "carried", "[I", true)
  | 2 => ("DomainHouse$Message", "marks", "[I", true)
  | 3 => ("DomainHouse$Message", "faultPlace", "[I", true)
  | 4 => ("DomainHouse$Message", "octets", "[I", false)
  | 5 => ("DomainHouse$Message", "carriedCount", "I", false)
  | 6 => ("DomainHouse$Message", "markCount", "I", false)
  | 7 => ("DomainHouse$Message", "hasOrigin", "Z", false)
  | 8 => ("DomainHouse$Message", "hasWay", "Z", false)
  | 9 => ("DomainHouse$Message", "route", "LDomainHouse$Route;", true)
  | 10 => ("DomainHouse$Message", "address", "[I", true)
  | 11 => ("DomainHouse$Message", "length", "[I", true)
  | 12 => ("DomainHouse$Message", "written", "[I", true)
  | 13 => ("DomainHouse$Message", "withdrawn", "I", false)
  | 14 => ("DomainHouse$Message", "announced", "I", false)
  | 15 => ("DomainHouse$Message", "writtenSize", "I", false)
  | _ => ("DomainHouse$Message", "taken", "Z", false)
def tyX3 : Nat → FieldType := fun k => match k with
  | 0 => .array .int
  | 1 => .array .int
  | 2 => .array .int
  | 3 => .array .int
  | 4 => .array .int
  | 5 => .int
  | 6 => .int
  | 7 => .boolean
  | 8 => .boolean
  | 9 => .object "DomainHouse$Route"
  | 10 => .array .int
  | 11 => .array .int
  | 12 => .array .int
  | 13 => .int
  | 14 => .int
  | 15 => .int
  | _ => .boolean
theorem nmX3 : ∀ a, a < 17 → ∀ b, b < 17 → a ≠ b → (TX3 a).2.1 ≠ (TX3 b).2.1 := by decide +kernel
theorem tyX3_ok : ∀ k, k < 17 → parseFieldDescriptor (TX3 k).2.2.1 = some (tyX3 k) := by decide +kernel
abbrev cX3_init : ByteArray := prog_5_method_1_code
def yX3_init : MethodName := ⟨RX3, "<init>", "()V"⟩
abbrev cX3_read : ByteArray := prog_5_method_2_code
def yX3_read : MethodName := ⟨RX3, "read", "([II)I"⟩
abbrev cX3_forget : ByteArray := prog_5_method_3_code
def yX3_forget : MethodName := ⟨RX3, "forget", "()V"⟩
abbrev cX3_readParts : ByteArray := prog_5_method_4_code
def yX3_readParts : MethodName := ⟨RX3, "readParts", "(I)V"⟩
abbrev cX3_note : ByteArray := prog_5_method_5_code
def yX3_note : MethodName := ⟨RX3, "note", "(II)V"⟩
abbrev cX3_pairAt : ByteArray := prog_5_method_6_code
def yX3_pairAt : MethodName := ⟨RX3, "pairAt", "(I)I"⟩
abbrev cX3_fourAt : ByteArray := prog_5_method_7_code
def yX3_fourAt : MethodName := ⟨RX3, "fourAt", "(I)I"⟩
abbrev cX3_readPrefixes : ByteArray := prog_5_method_8_code
def yX3_readPrefixes : MethodName := ⟨RX3, "readPrefixes", "(III)I"⟩
abbrev cX3_readAttributes : ByteArray := prog_5_method_9_code
def yX3_readAttributes : MethodName := ⟨RX3, "readAttributes", "(II)V"⟩
abbrev cX3_readAttribute : ByteArray := prog_5_method_10_code
def yX3_readAttribute : MethodName := ⟨RX3, "readAttribute", "(III)V"⟩
abbrev cX3_carry : ByteArray := prog_5_method_11_code
def yX3_carry : MethodName := ⟨RX3, "carry", "(II)V"⟩
abbrev cX3_readOrigin : ByteArray := prog_5_method_12_code
def yX3_readOrigin : MethodName := ⟨RX3, "readOrigin", "(II)Z"⟩
abbrev cX3_readCost : ByteArray := prog_5_method_13_code
def yX3_readCost : MethodName := ⟨RX3, "readCost", "(II)Z"⟩
abbrev cX3_readMarks : ByteArray := prog_5_method_14_code
def yX3_readMarks : MethodName := ⟨RX3, "readMarks", "(II)Z"⟩
abbrev cX3_keepMark : ByteArray := prog_5_method_15_code
def yX3_keepMark : MethodName := ⟨RX3, "keepMark", "(I)V"⟩
abbrev cX3_readWay : ByteArray := prog_5_method_16_code
def yX3_readWay : MethodName := ⟨RX3, "readWay", "(II)Z"⟩
abbrev cX3_sortWithoutSign : ByteArray := prog_5_method_17_code
def yX3_sortWithoutSign : MethodName := ⟨RX3, "sortWithoutSign", "([III)V"⟩
abbrev cX3_told : ByteArray := prog_5_method_18_code
def yX3_told : MethodName := ⟨RX3, "told", "(I)I"⟩
abbrev cX3_placeTold : ByteArray := prog_5_method_19_code
def yX3_placeTold : MethodName := ⟨RX3, "placeTold", "()I"⟩
abbrev cX3_toldInAll : ByteArray := prog_5_method_20_code
def yX3_toldInAll : MethodName := ⟨RX3, "toldInAll", "(I)I"⟩
abbrev cX3_toldOfRow : ByteArray := prog_5_method_21_code
def yX3_toldOfRow : MethodName := ⟨RX3, "toldOfRow", "(I)I"⟩
abbrev cX3_putDown : ByteArray := prog_5_method_22_code
def yX3_putDown : MethodName := ⟨RX3, "putDown", "(LDomainHouse$Route;II)I"⟩
abbrev cX3_putAttributes : ByteArray := prog_5_method_23_code
def yX3_putAttributes : MethodName := ⟨RX3, "putAttributes", "(LDomainHouse$Route;)V"⟩
abbrev cX3_putHead : ByteArray := prog_5_method_24_code
def yX3_putHead : MethodName := ⟨RX3, "putHead", "(III)V"⟩
abbrev cX3_putPrefix : ByteArray := prog_5_method_25_code
def yX3_putPrefix : MethodName := ⟨RX3, "putPrefix", "(II)V"⟩
abbrev cX3_putNumber : ByteArray := prog_5_method_26_code
def yX3_putNumber : MethodName := ⟨RX3, "putNumber", "(II)V"⟩
def RX4 : String := "DomainHouse$Net"
def TX4 : u_T := fun k => match k with
  | 0 => ("DomainHouse$Net", "ways", "[I", true)
  | 1 => ("DomainHouse$Net", "lengths", "[I", true)
  | 2 => ("DomainHouse$Net", "neededPlace", "[I", true)
  | 3 => ("DomainHouse$Net", "neededWay", "[I", true)
  | 4 => ("DomainHouse$Net", "weight", "[I", true)
  | 5 => ("DomainHouse$Net", "has", "[I", true)
  | 6 => ("DomainHouse$Net", "queue", "[I", false)
  | 7 => ("DomainHouse$Net", "restState", "[I", false)
  | 8 => ("DomainHouse$Net", "flags", "[B", false)
  | 9 => ("DomainHouse$Net", "states", "I", false)
  | 10 => ("DomainHouse$Net", "restsKnown", "Z", false)
  | 11 => ("DomainHouse$Net", "explored", "Z", false)
  | 12 => ("DomainHouse$Net", "wishes", "[I", true)
  | 13 => ("DomainHouse$Net", "found", "[I", true)
  | _ => ("DomainHouse$Net", "restCount", "I", false)
def tyX4 : Nat → FieldType := fun k => match k with
  | 0 => .array .int
  | 1 => .array .int
  | 2 => .array .int
  | 3 => .array .int
  | 4 => .array .int
  | 5 => .array .int
  | 6 => .array .int
  | 7 => .array .int
  | 8 => .array .byte
  | 9 => .int
  | 10 => .boolean
  | 11 => .boolean
  | 12 => .array .int
  | 13 => .array .int
  | _ => .int
theorem nmX4 : ∀ a, a < 15 → ∀ b, b < 15 → a ≠ b → (TX4 a).2.1 ≠ (TX4 b).2.1 := by decide +kernel
theorem tyX4_ok : ∀ k, k < 15 → parseFieldDescriptor (TX4 k).2.2.1 = some (tyX4 k) := by decide +kernel
abbrev cX4_init : ByteArray := prog_6_method_1_code
def yX4_init : MethodName := ⟨RX4, "<init>", "()V"⟩
abbrev cX4_isWish : ByteArray := prog_6_method_2_code
def yX4_isWish : MethodName := ⟨RX4, "isWish", "([II)Z"⟩
abbrev cX4_find : ByteArray := prog_6_method_3_code
def yX4_find : MethodName := ⟨RX4, "find", "([III)I"⟩
abbrev cX4_addWish : ByteArray := prog_6_method_4_code
def yX4_addWish : MethodName := ⟨RX4, "addWish", "([II)I"⟩
abbrev cX4_forget : ByteArray := prog_6_method_5_code
def yX4_forget : MethodName := ⟨RX4, "forget", "()I"⟩
abbrev cX4_prepare : ByteArray := prog_6_method_6_code
def yX4_prepare : MethodName := ⟨RX4, "prepare", "()V"⟩
abbrev cX4_need : ByteArray := prog_6_method_7_code
def yX4_need : MethodName := ⟨RX4, "need", "(I)V"⟩
abbrev cX4_actOf : ByteArray := prog_6_method_8_code
def yX4_actOf : MethodName := ⟨RX4, "actOf", "(I)I"⟩
abbrev cX4_isRest : ByteArray := prog_6_method_9_code
def yX4_isRest : MethodName := ⟨RX4, "isRest", "()Z"⟩
abbrev cX4_unfold : ByteArray := prog_6_method_10_code
def yX4_unfold : MethodName := ⟨RX4, "unfold", "(I)V"⟩
abbrev cX4_figure : ByteArray := prog_6_method_11_code
def yX4_figure : MethodName := ⟨RX4, "figure", "(II)I"⟩
abbrev cX4_countUp : ByteArray := prog_6_method_12_code
def yX4_countUp : MethodName := ⟨RX4, "countUp", "()V"⟩
abbrev cX4_findRests : ByteArray := prog_6_method_13_code
def yX4_findRests : MethodName := ⟨RX4, "findRests", "()V"⟩
abbrev cX4_keepRest : ByteArray := prog_6_method_14_code
def yX4_keepRest : MethodName := ⟨RX4, "keepRest", "(I)V"⟩
abbrev cX4_wayInRest : ByteArray := prog_6_method_15_code
def yX4_wayInRest : MethodName := ⟨RX4, "wayInRest", "(II)I"⟩
abbrev cX4_explore : ByteArray := prog_6_method_16_code
def yX4_explore : MethodName := ⟨RX4, "explore", "()V"⟩
abbrev cX4_makeRoom : ByteArray := prog_6_method_17_code
def yX4_makeRoom : MethodName := ⟨RX4, "makeRoom", "()V"⟩
abbrev cX4_spread : ByteArray := prog_6_method_18_code
def yX4_spread : MethodName := ⟨RX4, "spread", "()I"⟩
abbrev cX4_addNeighbours : ByteArray := prog_6_method_19_code
def yX4_addNeighbours : MethodName := ⟨RX4, "addNeighbours", "(II)I"⟩
abbrev cX4_leadBack : ByteArray := prog_6_method_20_code
def yX4_leadBack : MethodName := ⟨RX4, "leadBack", "()I"⟩
abbrev cX4_addSources : ByteArray := prog_6_method_21_code
def yX4_addSources : MethodName := ⟨RX4, "addSources", "(II)I"⟩
def RX5 : String := "DomainHouse$Policy"
def TX5 : u_T := fun k => match k with
  | 0 => ("DomainHouse$Policy", "rows", "I", true)
  | 1 => ("DomainHouse$Policy", "code", "[I", true)
  | 2 => ("DomainHouse$Policy", "places", "[I", true)
  | 3 => ("DomainHouse$Policy", "next", "[J", true)
  | 4 => ("DomainHouse$Policy", "first", "[J", true)
  | _ => ("DomainHouse$Policy", "last", "[J", true)
def tyX5 : Nat → FieldType := fun k => match k with
  | 0 => .int
  | 1 => .array .int
  | 2 => .array .int
  | 3 => .array .long
  | 4 => .array .long
  | _ => .array .long
theorem nmX5 : ∀ a, a < 6 → ∀ b, b < 6 → a ≠ b → (TX5 a).2.1 ≠ (TX5 b).2.1 := by decide +kernel
theorem tyX5_ok : ∀ k, k < 6 → parseFieldDescriptor (TX5 k).2.2.1 = some (tyX5 k) := by decide +kernel
abbrev cX5_init : ByteArray := prog_7_method_1_code
def yX5_init : MethodName := ⟨RX5, "<init>", "(I[I[I[J[J[J)V"⟩
abbrev cX5_tells : ByteArray := prog_7_method_2_code
def yX5_tells : MethodName := ⟨RX5, "tells", "(IZLDomainHouse$Route;)Z"⟩
def RX6 : String := "DomainHouse$Reader"
def TX6 : u_T := fun k => match k with
  | 0 => ("DomainHouse$Reader", "token", "[I", true)
  | 1 => ("DomainHouse$Reader", "value", "[I", true)
  | 2 => ("DomainHouse$Reader", "place", "[I", true)
  | 3 => ("DomainHouse$Reader", "code", "[I", true)
  | 4 => ("DomainHouse$Reader", "places", "[I", true)
  | 5 => ("DomainHouse$Reader", "next", "[J", true)
  | 6 => ("DomainHouse$Reader", "first", "[J", true)
  | 7 => ("DomainHouse$Reader", "last", "[J", true)
  | 8 => ("DomainHouse$Reader", "end", "I", false)
  | 9 => ("DomainHouse$Reader", "at", "I", false)
  | 10 => ("DomainHouse$Reader", "rows", "I", false)
  | 11 => ("DomainHouse$Reader", "codeSize", "I", false)
  | 12 => ("DomainHouse$Reader", "placeCount", "I", false)
  | 13 => ("DomainHouse$Reader", "ways", "I", false)
  | 14 => ("DomainHouse$Reader", "callable", "I", false)
  | 15 => ("DomainHouse$Reader", "partEmpty", "Z", false)
  | 16 => ("DomainHouse$Reader", "partFirst", "J", false)
  | 17 => ("DomainHouse$Reader", "partLast", "J", false)
  | 18 => ("DomainHouse$Reader", "fault", "I", false)
  | _ => ("DomainHouse$Reader", "faultPlace", "I", false)
def tyX6 : Nat → FieldType := fun k => match k with
  | 0 => .array .int
  | 1 => .array .int
  | 2 => .array .int
  | 3 => .array .int
  | 4 => .array .int
  | 5 => .array .long
  | 6 => .array .long
  | 7 => .array .long
  | 8 => .int
  | 9 => .int
  | 10 => .int
  | 11 => .int
  | 12 => .int
  | 13 => .int
  | 14 => .int
  | 15 => .boolean
  | 16 => .long
  | 17 => .long
  | 18 => .int
  | _ => .int
theorem nmX6 : ∀ a, a < 20 → ∀ b, b < 20 → a ≠ b → (TX6 a).2.1 ≠ (TX6 b).2.1 := by decide +kernel
theorem tyX6_ok : ∀ k, k < 20 → parseFieldDescriptor (TX6 k).2.2.1 = some (tyX6 k) := by decide +kernel
abbrev cX6_init : ByteArray := prog_8_method_1_code
def yX6_init : MethodName := ⟨RX6, "<init>", "()V"⟩
abbrev cX6_read : ByteArray := prog_8_method_2_code
def yX6_read : MethodName := ⟨RX6, "read", "([III)V"⟩
abbrev cX6_result : ByteArray := prog_8_method_3_code
def yX6_result : MethodName := ⟨RX6, "result", "()LDomainHouse$Policy;"⟩
abbrev cX6_split : ByteArray := prog_8_method_4_code
def yX6_split : MethodName := ⟨RX6, "split", "([II)V"⟩
abbrev cX6_isLetter : ByteArray := prog_8_method_5_code
def yX6_isLetter : MethodName := ⟨RX6, "isLetter", "(I)Z"⟩
abbrev cX6_isFigure : ByteArray := prog_8_method_6_code
def yX6_isFigure : MethodName := ⟨RX6, "isFigure", "(I)Z"⟩
abbrev cX6_putNumber : ByteArray := prog_8_method_7_code
def yX6_putNumber : MethodName := ⟨RX6, "putNumber", "([III)V"⟩
abbrev cX6_putToken : ByteArray := prog_8_method_8_code
def yX6_putToken : MethodName := ⟨RX6, "putToken", "(III)V"⟩
abbrev cX6_wordAt : ByteArray := prog_8_method_9_code
def yX6_wordAt : MethodName := ⟨RX6, "wordAt", "([III)I"⟩
abbrev cX6_fail : ByteArray := prog_8_method_10_code
def yX6_fail : MethodName := ⟨RX6, "fail", "(I)V"⟩
abbrev cX6_step : ByteArray := prog_8_method_11_code
def yX6_step : MethodName := ⟨RX6, "step", "()V"⟩
abbrev cX6_take : ByteArray := prog_8_method_12_code
def yX6_take : MethodName := ⟨RX6, "take", "(I)Z"⟩
abbrev cX6_expect : ByteArray := prog_8_method_13_code
def yX6_expect : MethodName := ⟨RX6, "expect", "(I)V"⟩
abbrev cX6_number : ByteArray := prog_8_method_14_code
def yX6_number : MethodName := ⟨RX6, "number", "(II)I"⟩
abbrev cX6_readRow : ByteArray := prog_8_method_15_code
def yX6_readRow : MethodName := ⟨RX6, "readRow", "()V"⟩
abbrev cX6_isAct : ByteArray := prog_8_method_16_code
def yX6_isAct : MethodName := ⟨RX6, "isAct", "(I)Z"⟩
abbrev cX6_readAct : ByteArray := prog_8_method_17_code
def yX6_readAct : MethodName := ⟨RX6, "readAct", "()V"⟩
abbrev cX6_readTest : ByteArray := prog_8_method_18_code
def yX6_readTest : MethodName := ⟨RX6, "readTest", "()V"⟩
abbrev cX6_isTest : ByteArray := prog_8_method_19_code
def yX6_isTest : MethodName := ⟨RX6, "isTest", "(I)Z"⟩
abbrev cX6_oneOf : ByteArray := prog_8_method_20_code
def yX6_oneOf : MethodName := ⟨RX6, "oneOf", "(II)I"⟩
abbrev cX6_verdictOf : ByteArray := prog_8_method_21_code
def yX6_verdictOf : MethodName := ⟨RX6, "verdictOf", "(I)I"⟩
abbrev cX6_relation : ByteArray := prog_8_method_22_code
def yX6_relation : MethodName := ⟨RX6, "relation", "()I"⟩
abbrev cX6_readHeldIn : ByteArray := prog_8_method_23_code
def yX6_readHeldIn : MethodName := ⟨RX6, "readHeldIn", "(I)V"⟩
abbrev cX6_readWay : ByteArray := prog_8_method_24_code
def yX6_readWay : MethodName := ⟨RX6, "readWay", "(I)V"⟩
abbrev cX6_readBranches : ByteArray := prog_8_method_25_code
def yX6_readBranches : MethodName := ⟨RX6, "readBranches", "(I)V"⟩
abbrev cX6_beginsPiece : ByteArray := prog_8_method_26_code
def yX6_beginsPiece : MethodName := ⟨RX6, "beginsPiece", "(I)Z"⟩
abbrev cX6_readGroup : ByteArray := prog_8_method_27_code
def yX6_readGroup : MethodName := ⟨RX6, "readGroup", "(I)V"⟩
abbrev cX6_readPlace : ByteArray := prog_8_method_28_code
def yX6_readPlace : MethodName := ⟨RX6, "readPlace", "()V"⟩
abbrev cX6_readRepeat : ByteArray := prog_8_method_29_code
def yX6_readRepeat : MethodName := ⟨RX6, "readRepeat", "()V"⟩
abbrev cX6_join : ByteArray := prog_8_method_30_code
def yX6_join : MethodName := ⟨RX6, "join", "(JJ)V"⟩
abbrev cX6_putTest : ByteArray := prog_8_method_31_code
def yX6_putTest : MethodName := ⟨RX6, "putTest", "(IIIII)V"⟩
abbrev cX6_put : ByteArray := prog_8_method_32_code
def yX6_put : MethodName := ⟨RX6, "put", "(I)V"⟩
def RX7 : String := "DomainHouse$Route"
def TX7 : u_T := fun k => match k with
  | 0 => ("DomainHouse$Route", "way", "[I", true)
  | 1 => ("DomainHouse$Route", "marks", "[I", true)
  | 2 => ("DomainHouse$Route", "there", "Z", false)
  | 3 => ("DomainHouse$Route", "prefix", "I", false)
  | 4 => ("DomainHouse$Route", "wish", "I", false)
  | 5 => ("DomainHouse$Route", "origin", "I", false)
  | 6 => ("DomainHouse$Route", "cost", "I", false)
  | 7 => ("DomainHouse$Route", "wayLength", "I", false)
  | 8 => ("DomainHouse$Route", "markCount", "I", false)
  | 9 => ("DomainHouse$Route", "when", "I", false)
  | 10 => ("DomainHouse$Route", "tie", "I", false)
  | _ => ("DomainHouse$Route", "partner", "I", false)
def tyX7 : Nat → FieldType := fun k => match k with
  | 0 => .array .int
  | 1 => .array .int
  | 2 => .boolean
  | 3 => .int
  | 4 => .int
  | 5 => .int
  | 6 => .int
  | 7 => .int
  | 8 => .int
  | 9 => .int
  | 10 => .int
  | _ => .int
theorem nmX7 : ∀ a, a < 12 → ∀ b, b < 12 → a ≠ b → (TX7 a).2.1 ≠ (TX7 b).2.1 := by decide +kernel
theorem tyX7_ok : ∀ k, k < 12 → parseFieldDescriptor (TX7 k).2.2.1 = some (tyX7 k) := by decide +kernel
abbrev cX7_init : ByteArray := prog_9_method_1_code
def yX7_init : MethodName := ⟨RX7, "<init>", "()V"⟩
abbrev cX7_begin : ByteArray := prog_9_method_2_code
def yX7_begin : MethodName := ⟨RX7, "begin", "(II)V"⟩
abbrev cX7_become : ByteArray := prog_9_method_3_code
def yX7_become : MethodName := ⟨RX7, "become", "(LDomainHouse$Route;)V"⟩
abbrev cX7_vanish : ByteArray := prog_9_method_4_code
def yX7_vanish : MethodName := ⟨RX7, "vanish", "()V"⟩
abbrev cX7_isAlike : ByteArray := prog_9_method_5_code
def yX7_isAlike : MethodName := ⟨RX7, "isAlike", "(LDomainHouse$Route;)Z"⟩
abbrev cX7_passes : ByteArray := prog_9_method_6_code
def yX7_passes : MethodName := ⟨RX7, "passes", "(I)Z"⟩
abbrev cX7_sharesFirst : ByteArray := prog_9_method_7_code
def yX7_sharesFirst : MethodName := ⟨RX7, "sharesFirst", "(LDomainHouse$Route;)Z"⟩
abbrev cX7_putInFront : ByteArray := prog_9_method_8_code
def yX7_putInFront : MethodName := ⟨RX7, "putInFront", "(II)Z"⟩
abbrev cX7_hasMark : ByteArray := prog_9_method_9_code
def yX7_hasMark : MethodName := ⟨RX7, "hasMark", "(I)Z"⟩
abbrev cX7_addMark : ByteArray := prog_9_method_10_code
def yX7_addMark : MethodName := ⟨RX7, "addMark", "(I)V"⟩
abbrev cX7_dropMark : ByteArray := prog_9_method_11_code
def yX7_dropMark : MethodName := ⟨RX7, "dropMark", "(I)V"⟩
def RX8 : String := "DomainHouse$Talk"
def TX8 : u_T := fun k => match k with
  | 0 => ("DomainHouse$Talk", "world", "LDomainHouse$World;", true)
  | 1 => ("DomainHouse$Talk", "court", "LDomainHouse$Judge;", true)
  | 2 => ("DomainHouse$Talk", "queue", "[I", true)
  | 3 => ("DomainHouse$Talk", "momentOf", "[I", true)
  | 4 => ("DomainHouse$Talk", "candidate", "[LDomainHouse$Route;", true)
  | 5 => ("DomainHouse$Talk", "winner", "[I", true)
  | 6 => ("DomainHouse$Talk", "own", "LDomainHouse$Route;", true)
  | 7 => ("DomainHouse$Talk", "nothing", "LDomainHouse$Route;", true)
  | 8 => ("DomainHouse$Talk", "outgoing", "LDomainHouse$Route;", true)
  | 9 => ("DomainHouse$Talk", "candidates", "I", false)
  | 10 => ("DomainHouse$Talk", "queued", "I", false)
  | 11 => ("DomainHouse$Talk", "clock", "I", false)
  | _ => ("DomainHouse$Talk", "done", "I", false)
def tyX8 : Nat → FieldType := fun k => match k with
  | 0 => .object "DomainHouse$World"
  | 1 => .object "DomainHouse$Judge"
  | 2 => .array .int
  | 3 => .array .int
  | 4 => .array (.object "DomainHouse$Route")
  | 5 => .array .int
  | 6 => .object "DomainHouse$Route"
  | 7 => .object "DomainHouse$Route"
  | 8 => .object "DomainHouse$Route"
  | 9 => .int
  | 10 => .int
  | 11 => .int
  | _ => .int
theorem nmX8 : ∀ a, a < 13 → ∀ b, b < 13 → a ≠ b → (TX8 a).2.1 ≠ (TX8 b).2.1 := by decide +kernel
theorem tyX8_ok : ∀ k, k < 13 → parseFieldDescriptor (TX8 k).2.2.1 = some (tyX8 k) := by decide +kernel
abbrev cX8_init : ByteArray := prog_10_method_1_code
def yX8_init : MethodName := ⟨RX8, "<init>", "(LDomainHouse$World;LDomainHouse$Judge;)V"⟩
abbrev cX8_slotOf : ByteArray := prog_10_method_2_code
def yX8_slotOf : MethodName := ⟨RX8, "slotOf", "(IIII)I"⟩
abbrev cX8_schedule : ByteArray := prog_10_method_3_code
def yX8_schedule : MethodName := ⟨RX8, "schedule", "(II)V"⟩
abbrev cX8_cancel : ByteArray := prog_10_method_4_code
def yX8_cancel : MethodName := ⟨RX8, "cancel", "(I)V"⟩
abbrev cX8_doNext : ByteArray := prog_10_method_5_code
def yX8_doNext : MethodName := ⟨RX8, "doNext", "(I)Z"⟩
abbrev cX8_passTo : ByteArray := prog_10_method_6_code
def yX8_passTo : MethodName := ⟨RX8, "passTo", "(I)V"⟩
abbrev cX8_handOver : ByteArray := prog_10_method_7_code
def yX8_handOver : MethodName := ⟨RX8, "handOver", "(LDomainHouse$Tie;II)V"⟩
abbrev cX8_takeIn : ByteArray := prog_10_method_8_code
def yX8_takeIn : MethodName := ⟨RX8, "takeIn", "(LDomainHouse$Message;II)I"⟩
abbrev cX8_silence : ByteArray := prog_10_method_9_code
def yX8_silence : MethodName := ⟨RX8, "silence", "(I)V"⟩
abbrev cX8_tellAllAnew : ByteArray := prog_10_method_10_code
def yX8_tellAllAnew : MethodName := ⟨RX8, "tellAllAnew", "()V"⟩
abbrev cX8_lookAtAll : ByteArray := prog_10_method_11_code
def yX8_lookAtAll : MethodName := ⟨RX8, "lookAtAll", "(I)V"⟩
abbrev cX8_sayAll : ByteArray := prog_10_method_12_code
def yX8_sayAll : MethodName := ⟨RX8, "sayAll", "(II)V"⟩
abbrev cX8_look : ByteArray := prog_10_method_13_code
def yX8_look : MethodName := ⟨RX8, "look", "(II)V"⟩
abbrev cX8_gather : ByteArray := prog_10_method_14_code
def yX8_gather : MethodName := ⟨RX8, "gather", "(II)V"⟩
abbrev cX8_pickPlain : ByteArray := prog_10_method_15_code
def yX8_pickPlain : MethodName := ⟨RX8, "pickPlain", "(LDomainHouse$Domain;)I"⟩
abbrev cX8_pickGrouped : ByteArray := prog_10_method_16_code
def yX8_pickGrouped : MethodName := ⟨RX8, "pickGrouped", "(LDomainHouse$Domain;)I"⟩
abbrev cX8_lastStanding : ByteArray := prog_10_method_17_code
def yX8_lastStanding : MethodName := ⟨RX8, "lastStanding", "(LDomainHouse$Domain;I)I"⟩
abbrev cX8_isFirstOfGroup : ByteArray := prog_10_method_18_code
def yX8_isFirstOfGroup : MethodName := ⟨RX8, "isFirstOfGroup", "(I)Z"⟩
abbrev cX8_bestOfGroup : ByteArray := prog_10_method_19_code
def yX8_bestOfGroup : MethodName := ⟨RX8, "bestOfGroup", "(LDomainHouse$Domain;I)I"⟩
abbrev cX8_insertWinner : ByteArray := prog_10_method_20_code
def yX8_insertWinner : MethodName := ⟨RX8, "insertWinner", "(II)V"⟩
abbrev cX8_groupOrder : ByteArray := prog_10_method_21_code
def yX8_groupOrder : MethodName := ⟨RX8, "groupOrder", "(I)J"⟩
abbrev cX8_say : ByteArray := prog_10_method_22_code
def yX8_say : MethodName := ⟨RX8, "say", "(III)V"⟩
abbrev cX8_compose : ByteArray := prog_10_method_23_code
def yX8_compose : MethodName := ⟨RX8, "compose", "(LDomainHouse$Tie;III)V"⟩
abbrev cX8_reason : ByteArray := prog_10_method_24_code
def yX8_reason : MethodName := ⟨RX8, "reason", "(III)I"⟩
abbrev cX8_candidateOver : ByteArray := prog_10_method_25_code
def yX8_candidateOver : MethodName := ⟨RX8, "candidateOver", "(I)I"⟩
abbrev cX8_threeInRing : ByteArray := prog_10_method_26_code
def yX8_threeInRing : MethodName := ⟨RX8, "threeInRing", "(III)I"⟩
def RX9 : String := "DomainHouse$Tie"
def TX9 : u_T := fun k => match k with
  | 0 => ("DomainHouse$Tie", "a", "I", true)
  | 1 => ("DomainHouse$Tie", "b", "I", true)
  | 2 => ("DomainHouse$Tie", "kind", "I", true)
  | 3 => ("DomainHouse$Tie", "policy", "[I", true)
  | 4 => ("DomainHouse$Tie", "heard", "[LDomainHouse$Route;", true)
  | 5 => ("DomainHouse$Tie", "said", "[LDomainHouse$Route;", true)
  | 6 => ("DomainHouse$Tie", "up", "Z", false)
  | 7 => ("DomainHouse$Tie", "delay", "I", false)
  | _ => ("DomainHouse$Tie", "gap", "I", false)
def tyX9 : Nat → FieldType := fun k => match k with
  | 0 => .int
  | 1 => .int
  | 2 => .int
  | 3 => .array .int
  | 4 => .array (.object "DomainHouse$Route")
  | 5 => .array (.object "DomainHouse$Route")
  | 6 => .boolean
  | 7 => .int
  | _ => .int
theorem nmX9 : ∀ a, a < 9 → ∀ b, b < 9 → a ≠ b → (TX9 a).2.1 ≠ (TX9 b).2.1 := by decide +kernel
theorem tyX9_ok : ∀ k, k < 9 → parseFieldDescriptor (TX9 k).2.2.1 = some (tyX9 k) := by decide +kernel
abbrev cX9_init : ByteArray := prog_11_method_1_code
def yX9_init : MethodName := ⟨RX9, "<init>", "(III)V"⟩
abbrev cX9_placeOf : ByteArray := prog_11_method_2_code
def yX9_placeOf : MethodName := ⟨RX9, "placeOf", "(II)I"⟩
abbrev cX9_end : ByteArray := prog_11_method_3_code
def yX9_end : MethodName := ⟨RX9, "end", "(I)I"⟩
abbrev cX9_sideOf : ByteArray := prog_11_method_4_code
def yX9_sideOf : MethodName := ⟨RX9, "sideOf", "(I)I"⟩
abbrev cX9_partnerRole : ByteArray := prog_11_method_5_code
def yX9_partnerRole : MethodName := ⟨RX9, "partnerRole", "(I)I"⟩
def RX10 : String := "DomainHouse$World"
def TX10 : u_T := fun k => match k with
  | 0 => ("DomainHouse$World", "address", "[I", true)
  | 1 => ("DomainHouse$World", "length", "[I", true)
  | 2 => ("DomainHouse$World", "mask", "[I", true)
  | 3 => ("DomainHouse$World", "domain", "[LDomainHouse$Domain;", true)
  | 4 => ("DomainHouse$World", "tie", "[LDomainHouse$Tie;", true)
  | 5 => ("DomainHouse$World", "ringRow", "[I", true)
  | 6 => ("DomainHouse$World", "stepsBack", "[I", true)
  | 7 => ("DomainHouse$World", "rightPrefix", "[I", true)
  | 8 => ("DomainHouse$World", "rightMost", "[I", true)
  | 9 => ("DomainHouse$World", "rightDomain", "[I", true)
  | 10 => ("DomainHouse$World", "rightFrom", "[I", true)
  | 11 => ("DomainHouse$World", "rightTo", "[I", true)
  | 12 => ("DomainHouse$World", "rightKnown", "[I", true)
  | 13 => ("DomainHouse$World", "rightStruck", "[I", true)
  | 14 => ("DomainHouse$World", "prefixes", "I", false)
  | 15 => ("DomainHouse$World", "domains", "I", false)
  | 16 => ("DomainHouse$World", "ties", "I", false)
  | 17 => ("DomainHouse$World", "rights", "I", false)
  | _ => ("DomainHouse$World", "today", "I", false)
def tyX10 : Nat → FieldType := fun k => match k with
  | 0 => .array .int
  | 1 => .array .int
  | 2 => .array .int
  | 3 => .array (.object "DomainHouse$Domain")
  | 4 => .array (.object "DomainHouse$Tie")
  | 5 => .array .int
  | 6 => .array .int
  | 7 => .array .int
  | 8 => .array .int
  | 9 => .array .int
  | 10 => .array .int
  | 11 => .array .int
  | 12 => .array .int
  | 13 => .array .int
  | 14 => .int
  | 15 => .int
  | 16 => .int
  | 17 => .int
  | _ => .int
theorem nmX10 : ∀ a, a < 19 → ∀ b, b < 19 → a ≠ b → (TX10 a).2.1 ≠ (TX10 b).2.1 := by decide +kernel
theorem tyX10_ok : ∀ k, k < 19 → parseFieldDescriptor (TX10 k).2.2.1 = some (tyX10 k) := by decide +kernel
abbrev cX10_init : ByteArray := prog_12_method_1_code
def yX10_init : MethodName := ⟨RX10, "<init>", "()V"⟩
abbrev cX10_maskOf : ByteArray := prog_12_method_2_code
def yX10_maskOf : MethodName := ⟨RX10, "maskOf", "(I)I"⟩
abbrev cX10_addPrefix : ByteArray := prog_12_method_3_code
def yX10_addPrefix : MethodName := ⟨RX10, "addPrefix", "(II)I"⟩
abbrev cX10_findPrefix : ByteArray := prog_12_method_4_code
def yX10_findPrefix : MethodName := ⟨RX10, "findPrefix", "(II)I"⟩
abbrev cX10_addDomain : ByteArray := prog_12_method_5_code
def yX10_addDomain : MethodName := ⟨RX10, "addDomain", "()I"⟩
abbrev cX10_addTie : ByteArray := prog_12_method_6_code
def yX10_addTie : MethodName := ⟨RX10, "addTie", "(III)I"⟩
abbrev cX10_tieBetween : ByteArray := prog_12_method_7_code
def yX10_tieBetween : MethodName := ⟨RX10, "tieBetween", "(II)I"⟩
abbrev cX10_coneOf : ByteArray := prog_12_method_8_code
def yX10_coneOf : MethodName := ⟨RX10, "coneOf", "(I)I"⟩
abbrev cX10_findRing : ByteArray := prog_12_method_9_code
def yX10_findRing : MethodName := ⟨RX10, "findRing", "()I"⟩
abbrev cX10_shortestRing : ByteArray := prog_12_method_10_code
def yX10_shortestRing : MethodName := ⟨RX10, "shortestRing", "(I)I"⟩
abbrev cX10_fillRing : ByteArray := prog_12_method_11_code
def yX10_fillRing : MethodName := ⟨RX10, "fillRing", "(II)V"⟩
abbrev cX10_leastCustomer : ByteArray := prog_12_method_12_code
def yX10_leastCustomer : MethodName := ⟨RX10, "leastCustomer", "(II)I"⟩
abbrev cX10_firstWrongStep : ByteArray := prog_12_method_13_code
def yX10_firstWrongStep : MethodName := ⟨RX10, "firstWrongStep", "([II)I"⟩
abbrev cX10_addRight : ByteArray := prog_12_method_14_code
def yX10_addRight : MethodName := ⟨RX10, "addRight", "(IIIIII)I"⟩
abbrev cX10_verdictOn : ByteArray := prog_12_method_15_code
def yX10_verdictOn : MethodName := ⟨RX10, "verdictOn", "(IIII)I"⟩
def RX11 : String := "DomainHouse"
def TX11 : u_T := fun k => match k with
  | 0 => ("DomainHouse", "tape", "[I", true)
  | 1 => ("DomainHouse", "wayInHand", "[I", true)
  | 2 => ("DomainHouse", "routeInHand", "LDomainHouse$Route;", true)
  | 3 => ("DomainHouse", "world", "LDomainHouse$World;", true)
  | 4 => ("DomainHouse", "court", "LDomainHouse$Judge;", true)
  | 5 => ("DomainHouse", "reader", "LDomainHouse$Reader;", true)
  | 6 => ("DomainHouse", "talk", "LDomainHouse$Talk;", true)
  | 7 => ("DomainHouse", "mail", "LDomainHouse$Message;", true)
  | 8 => ("DomainHouse", "letters", "LDomainHouse$Letters;", true)
  | 9 => ("DomainHouse", "net", "LDomainHouse$Net;", true)
  | 10 => ("DomainHouse", "tapeSize", "I", false)
  | _ => ("DomainHouse", "wayLength", "I", false)
def tyX11 : Nat → FieldType := fun k => match k with
  | 0 => .array .int
  | 1 => .array .int
  | 2 => .object "DomainHouse$Route"
  | 3 => .object "DomainHouse$World"
  | 4 => .object "DomainHouse$Judge"
  | 5 => .object "DomainHouse$Reader"
  | 6 => .object "DomainHouse$Talk"
  | 7 => .object "DomainHouse$Message"
  | 8 => .object "DomainHouse$Letters"
  | 9 => .object "DomainHouse$Net"
  | 10 => .int
  | _ => .int
theorem nmX11 : ∀ a, a < 12 → ∀ b, b < 12 → a ≠ b → (TX11 a).2.1 ≠ (TX11 b).2.1 := by decide +kernel
theorem tyX11_ok : ∀ k, k < 12 → parseFieldDescriptor (TX11 k).2.2.1 = some (tyX11 k) := by decide +kernel
abbrev cX11_init : ByteArray := prog_1_method_1_code
def yX11_init : MethodName := ⟨RX11, "<init>", "()V"⟩
abbrev cX11_feed : ByteArray := prog_1_method_2_code
def yX11_feed : MethodName := ⟨RX11, "feed", "(IIIII)I"⟩
abbrev cX11_feedNumber : ByteArray := prog_1_method_3_code
def yX11_feedNumber : MethodName := ⟨RX11, "feedNumber", "(I)V"⟩
abbrev cX11_cut : ByteArray := prog_1_method_4_code
def yX11_cut : MethodName := ⟨RX11, "cut", "(I)I"⟩
abbrev cX11_prefix : ByteArray := prog_1_method_5_code
def yX11_prefix : MethodName := ⟨RX11, "prefix", "(II)I"⟩
abbrev cX11_domain : ByteArray := prog_1_method_6_code
def yX11_domain : MethodName := ⟨RX11, "domain", "()I"⟩
abbrev cX11_tie : ByteArray := prog_1_method_7_code
def yX11_tie : MethodName := ⟨RX11, "tie", "(III)I"⟩
abbrev cX11_pace : ByteArray := prog_1_method_8_code
def yX11_pace : MethodName := ⟨RX11, "pace", "(III)I"⟩
abbrev cX11_raise : ByteArray := prog_1_method_9_code
def yX11_raise : MethodName := ⟨RX11, "raise", "(IZ)I"⟩
abbrev cX11_cone : ByteArray := prog_1_method_10_code
def yX11_cone : MethodName := ⟨RX11, "cone", "(II)I"⟩
abbrev cX11_ring : ByteArray := prog_1_method_11_code
def yX11_ring : MethodName := ⟨RX11, "ring", "(I)I"⟩
abbrev cX11_walk : ByteArray := prog_1_method_12_code
def yX11_walk : MethodName := ⟨RX11, "walk", "(I)I"⟩
abbrev cX11_letWay : ByteArray := prog_1_method_13_code
def yX11_letWay : MethodName := ⟨RX11, "letWay", "()I"⟩
abbrev cX11_today : ByteArray := prog_1_method_14_code
def yX11_today : MethodName := ⟨RX11, "today", "(I)I"⟩
abbrev cX11_right : ByteArray := prog_1_method_15_code
def yX11_right : MethodName := ⟨RX11, "right", "(IIIIII)I"⟩
abbrev cX11_strike : ByteArray := prog_1_method_16_code
def yX11_strike : MethodName := ⟨RX11, "strike", "(II)I"⟩
abbrev cX11_verdict : ByteArray := prog_1_method_17_code
def yX11_verdict : MethodName := ⟨RX11, "verdict", "(IIII)I"⟩
abbrev cX11_policy : ByteArray := prog_1_method_18_code
def yX11_policy : MethodName := ⟨RX11, "policy", "()I"⟩
abbrev cX11_fault : ByteArray := prog_1_method_19_code
def yX11_fault : MethodName := ⟨RX11, "fault", "()I"⟩
abbrev cX11_route : ByteArray := prog_1_method_20_code
def yX11_route : MethodName := ⟨RX11, "route", "(IIII)I"⟩
abbrev cX11_judge : ByteArray := prog_1_method_21_code
def yX11_judge : MethodName := ⟨RX11, "judge", "(III)I"⟩
abbrev cX11_hand : ByteArray := prog_1_method_22_code
def yX11_hand : MethodName := ⟨RX11, "hand", "(I)I"⟩
abbrev cX11_rowInHand : ByteArray := prog_1_method_23_code
def yX11_rowInHand : MethodName := ⟨RX11, "rowInHand", "(I)I"⟩
abbrev cX11_use : ByteArray := prog_1_method_24_code
def yX11_use : MethodName := ⟨RX11, "use", "(IIII)I"⟩
abbrev cX11_rule : ByteArray := prog_1_method_25_code
def yX11_rule : MethodName := ⟨RX11, "rule", "(IIZ)I"⟩
abbrev cX11_isRule : ByteArray := prog_1_method_26_code
def yX11_isRule : MethodName := ⟨RX11, "isRule", "(I)Z"⟩
abbrev cX11_announce : ByteArray := prog_1_method_27_code
def yX11_announce : MethodName := ⟨RX11, "announce", "(III)I"⟩
abbrev cX11_withdraw : ByteArray := prog_1_method_28_code
def yX11_withdraw : MethodName := ⟨RX11, "withdraw", "(II)I"⟩
abbrev cX11_go : ByteArray := prog_1_method_29_code
def yX11_go : MethodName := ⟨RX11, "go", "(I)I"⟩
abbrev cX11_until : ByteArray := prog_1_method_30_code
def yX11_until : MethodName := ⟨RX11, "until", "(I)I"⟩
abbrev cX11_picked : ByteArray := prog_1_method_31_code
def yX11_picked : MethodName := ⟨RX11, "picked", "(II)I"⟩
abbrev cX11_heard : ByteArray := prog_1_method_32_code
def yX11_heard : MethodName := ⟨RX11, "heard", "(IIII)I"⟩
abbrev cX11_why : ByteArray := prog_1_method_33_code
def yX11_why : MethodName := ⟨RX11, "why", "(III)I"⟩
abbrev cX11_three : ByteArray := prog_1_method_34_code
def yX11_three : MethodName := ⟨RX11, "three", "(III)I"⟩
abbrev cX11_message : ByteArray := prog_1_method_35_code
def yX11_message : MethodName := ⟨RX11, "message", "()I"⟩
abbrev cX11_part : ByteArray := prog_1_method_36_code
def yX11_part : MethodName := ⟨RX11, "part", "(I)I"⟩
abbrev cX11_hear : ByteArray := prog_1_method_37_code
def yX11_hear : MethodName := ⟨RX11, "hear", "(II)I"⟩
abbrev cX11_write : ByteArray := prog_1_method_38_code
def yX11_write : MethodName := ⟨RX11, "write", "(III)I"⟩
abbrev cX11_octet : ByteArray := prog_1_method_39_code
def yX11_octet : MethodName := ⟨RX11, "octet", "(I)I"⟩
abbrev cX11_letter : ByteArray := prog_1_method_40_code
def yX11_letter : MethodName := ⟨RX11, "letter", "(II)I"⟩
abbrev cX11_led : ByteArray := prog_1_method_41_code
def yX11_led : MethodName := ⟨RX11, "led", "(I)I"⟩
abbrev cX11_demand : ByteArray := prog_1_method_42_code
def yX11_demand : MethodName := ⟨RX11, "demand", "(III)I"⟩
abbrev cX11_load : ByteArray := prog_1_method_43_code
def yX11_load : MethodName := ⟨RX11, "load", "(II)I"⟩
abbrev cX11_units : ByteArray := prog_1_method_44_code
def yX11_units : MethodName := ⟨RX11, "units", "(I)I"⟩
abbrev cX11_least : ByteArray := prog_1_method_45_code
def yX11_least : MethodName := ⟨RX11, "least", "(I)I"⟩
abbrev cX11_differ : ByteArray := prog_1_method_46_code
def yX11_differ : MethodName := ⟨RX11, "differ", "(II)J"⟩
abbrev cX11_clear : ByteArray := prog_1_method_47_code
def yX11_clear : MethodName := ⟨RX11, "clear", "()I"⟩
abbrev cX11_wish : ByteArray := prog_1_method_48_code
def yX11_wish : MethodName := ⟨RX11, "wish", "()I"⟩
abbrev cX11_rests : ByteArray := prog_1_method_49_code
def yX11_rests : MethodName := ⟨RX11, "rests", "()I"⟩
abbrev cX11_rest : ByteArray := prog_1_method_50_code
def yX11_rest : MethodName := ⟨RX11, "rest", "(II)I"⟩
abbrev cX11_tries : ByteArray := prog_1_method_51_code
def yX11_tries : MethodName := ⟨RX11, "tries", "(I)I"⟩
abbrev cX11_count : ByteArray := prog_1_method_52_code
def yX11_count : MethodName := ⟨RX11, "count", "(I)I"⟩
abbrev cX11_isDomain : ByteArray := prog_1_method_53_code
def yX11_isDomain : MethodName := ⟨RX11, "isDomain", "(I)Z"⟩
abbrev cX11_isPrefix : ByteArray := prog_1_method_54_code
def yX11_isPrefix : MethodName := ⟨RX11, "isPrefix", "(I)Z"⟩
abbrev cX11_isTie : ByteArray := prog_1_method_55_code
def yX11_isTie : MethodName := ⟨RX11, "isTie", "(I)Z"⟩
abbrev cX11_isEither : ByteArray := prog_1_method_56_code
def yX11_isEither : MethodName := ⟨RX11, "isEither", "(I)Z"⟩
def RX12 : String := "DomainHouseModel"
def TX12 : u_T := fun k => match k with
  | 0 => ("DomainHouseModel", "tape", "[B", true)
  | 1 => ("DomainHouseModel", "size", "I", false)
  | 2 => ("DomainHouseModel", "prefixes", "I", false)
  | 3 => ("DomainHouseModel", "xAddress", "[I", true)
  | 4 => ("DomainHouseModel", "xLength", "[I", true)
  | 5 => ("DomainHouseModel", "domains", "I", false)
  | 6 => ("DomainHouseModel", "ties", "I", false)
  | 7 => ("DomainHouseModel", "tEnd", "[I", true)
  | 8 => ("DomainHouseModel", "tKind", "[I", true)
  | 9 => ("DomainHouseModel", "tUp", "[Z", true)
  | 10 => ("DomainHouseModel", "tDelay", "[I", true)
  | 11 => ("DomainHouseModel", "tGap", "[I", true)
  | 12 => ("DomainHouseModel", "tPolicy", "[I", true)
  | 13 => ("DomainHouseModel", "cone", "[Z", true)
  | 14 => ("DomainHouseModel", "far", "[I", true)
  | 15 => ("DomainHouseModel", "hands", "I", false)
  | 16 => ("DomainHouseModel", "handWay", "[I", true)
  | 17 => ("DomainHouseModel", "today", "I", false)
  | 18 => ("DomainHouseModel", "rights", "I", false)
  | 19 => ("DomainHouseModel", "rPrefix", "[I", true)
  | 20 => ("DomainHouseModel", "rMost", "[I", true)
  | 21 => ("DomainHouseModel", "rDomain", "[I", true)
  | 22 => ("DomainHouseModel", "rFrom", "[I", true)
  | 23 => ("DomainHouseModel", "rTo", "[I", true)
  | 24 => ("DomainHouseModel", "rKnown", "[I", true)
  | 25 => ("DomainHouseModel", "rStruck", "[I", true)
  | 26 => ("DomainHouseModel", "isJudged", "Z", false)
  | 27 => ("DomainHouseModel", "judgedPrefix", "I", false)
  | 28 => ("DomainHouseModel", "judgedNumber", "I", false)
  | 29 => ("DomainHouseModel", "judgedDay", "I", false)
  | 30 => ("DomainHouseModel", "judgedKnown", "I", false)
  | 31 => ("DomainHouseModel", "judgedVerdict", "I", false)
  | 32 => ("DomainHouseModel", "routes", "[I", true)
  | 33 => ("DomainHouseModel", "at", "I", false)
  | 34 => ("DomainHouseModel", "from", "I", false)
  | 35 => ("DomainHouseModel", "type", "I", false)
  | 36 => ("DomainHouseModel", "number", "I", false)
  | 37 => ("DomainHouseModel", "code", "I", false)
  | 38 => ("DomainHouseModel", "place", "I", false)
  | 39 => ("DomainHouseModel", "policies", "I", false)
  | 40 => ("DomainHouseModel", "pRows", "[I", true)
  | 41 => ("DomainHouseModel", "rowTest", "[I", true)
  | 42 => ("DomainHouseModel", "rowAct", "[I", true)
  | 43 => ("DomainHouseModel", "tests", "[I", true)
  | 44 => ("DomainHouseModel", "acts", "[I", true)
  | 45 => ("DomainHouseModel", "sWhat", "[I", true)
  | 46 => ("DomainHouseModel", "sNot", "[Z", true)
  | 47 => ("DomainHouseModel", "sA", "[I", true)
  | 48 => ("DomainHouseModel", "sB", "[I", true)
  | 49 => ("DomainHouseModel", "sC", "[I", true)
  | 50 => ("DomainHouseModel", "sFirst", "[J", true)
  | 51 => ("DomainHouseModel", "sLast", "[J", true)
  | 52 => ("DomainHouseModel", "sNone", "[Z", true)
  | 53 => ("DomainHouseModel", "cWhat", "[I", true)
  | 54 => ("DomainHouseModel", "cA", "[I", true)
  | 55 => ("DomainHouseModel", "atoms", "[I", true)
  | 56 => ("DomainHouseModel", "aNumber", "[I", true)
  | 57 => ("DomainHouseModel", "aFollow", "[J", true)
  | 58 => ("DomainHouseModel", "draft", "I", false)
  | 59 => ("DomainHouseModel", "levels", "I", false)
  | 60 => ("DomainHouseModel", "allFirst", "[J", true)
  | 61 => ("DomainHouseModel", "allLast", "[J", true)
  | 62 => ("DomainHouseModel", "allNone", "[Z", true)
  | 63 => ("DomainHouseModel", "rowFirst", "[J", true)
  | 64 => ("DomainHouseModel", "rowLast", "[J", true)
  | 65 => ("DomainHouseModel", "rowNone", "[Z", true)
  | 66 => ("DomainHouseModel", "fault", "I", false)
  | 67 => ("DomainHouseModel", "gPolicy", "[I", true)
  | 68 => ("DomainHouseModel", "gRow", "[I", true)
  | 69 => ("DomainHouseModel", "gAct", "[I", true)
  | 70 => ("DomainHouseModel", "isHand", "Z", false)
  | 71 => ("DomainHouseModel", "clock", "I", false)
  | 72 => ("DomainHouseModel", "made", "I", false)
  | 73 => ("DomainHouseModel", "done", "I", false)
  | 74 => ("DomainHouseModel", "heardAt", "[I", true)
  | 75 => ("DomainHouseModel", "wasSaid", "[Z", true)
  | 76 => ("DomainHouseModel", "saidAt", "[I", true)
  | 77 => ("DomainHouseModel", "goAt", "[I", true)
  | 78 => ("DomainHouseModel", "goMade", "[I", true)
  | 79 => ("DomainHouseModel", "waitAt", "[I", true)
  | 80 => ("DomainHouseModel", "waitMade", "[I", true)
  | 81 => ("DomainHouseModel", "pickedTie", "[I", true)
  | 82 => ("DomainHouseModel", "own", "[I", true)
  | 83 => ("DomainHouseModel", "steps", "[I", true)
  | 84 => ("DomainHouseModel", "grouped", "[Z", true)
  | 85 => ("DomainHouseModel", "left", "[Z", true)
  | 86 => ("DomainHouseModel", "gAddress", "[I", true)
  | 87 => ("DomainHouseModel", "gLength", "[I", true)
  | 88 => ("DomainHouseModel", "gone", "I", false)
  | 89 => ("DomainHouseModel", "nAddress", "[I", true)
  | 90 => ("DomainHouseModel", "nLength", "[I", true)
  | 91 => ("DomainHouseModel", "come", "I", false)
  | 92 => ("DomainHouseModel", "carried", "[I", true)
  | 93 => ("DomainHouseModel", "carries", "I", false)
  | 94 => ("DomainHouseModel", "seen", "[Z", true)
  | 95 => ("DomainHouseModel", "fPlace", "[I", true)
  | 96 => ("DomainHouseModel", "isMessage", "Z", false)
  | 97 => ("DomainHouseModel", "isClose", "Z", false)
  | 98 => ("DomainHouseModel", "isRightOrigin", "Z", false)
  | 99 => ("DomainHouseModel", "isRightWay", "Z", false)
  | 100 => ("DomainHouseModel", "msgMarks", "[I", true)
  | 101 => ("DomainHouseModel", "marksCame", "I", false)
  | 102 => ("DomainHouseModel", "toldKind", "I", false)
  | 103 => ("DomainHouseModel", "octets", "[I", true)
  | 104 => ("DomainHouseModel", "written", "I", false)
  | 105 => ("DomainHouseModel", "led", "[I", true)
  | 106 => ("DomainHouseModel", "ledMany", "I", false)
  | 107 => ("DomainHouseModel", "show", "[I", true)
  | 108 => ("DomainHouseModel", "showMany", "I", false)
  | 109 => ("DomainHouseModel", "demands", "I", false)
  | 110 => ("DomainHouseModel", "dFrom", "[I", true)
  | 111 => ("DomainHouseModel", "dAddress", "[I", true)
  | 112 => ("DomainHouseModel", "dUnits", "[I", true)
  | 113 => ("DomainHouseModel", "nAddr", "[I", true)
  | 114 => ("DomainHouseModel", "nDepth", "[I", true)
  | 115 => ("DomainHouseModel", "nCost", "[I", true)
  | 116 => ("DomainHouseModel", "nodes", "I", false)
  | 117 => ("DomainHouseModel", "edges", "[J", true)
  | 118 => ("DomainHouseModel", "wishes", "[I", true)
  | 119 => ("DomainHouseModel", "wLong", "[I", true)
  | 120 => ("DomainHouseModel", "wWay", "[I", true)
  | 121 => ("DomainHouseModel", "weigh", "[I", true)
  | 122 => ("DomainHouseModel", "has", "[I", true)
  | 123 => ("DomainHouseModel", "reached", "[I", true)
  | 124 => ("DomainHouseModel", "queue", "[I", true)
  | _ => ("DomainHouseModel", "hopes", "[Z", true)
def tyX12 : Nat → FieldType := fun k => match k with
  | 0 => .array .byte
  | 1 => .int
  | 2 => .int
  | 3 => .array .int
  | 4 => .array .int
  | 5 => .int
  | 6 => .int
  | 7 => .array .int
  | 8 => .array .int
  | 9 => .array .boolean
  | 10 => .array .int
  | 11 => .array .int
  | 12 => .array .int
  | 13 => .array .boolean
  | 14 => .array .int
  | 15 => .int
  | 16 => .array .int
  | 17 => .int
  | 18 => .int
  | 19 => .array .int
  | 20 => .array .int
  | 21 => .array .int
  | 22 => .array .int
  | 23 => .array .int
  | 24 => .array .int
  | 25 => .array .int
  | 26 => .boolean
  | 27 => .int
  | 28 => .int
  | 29 => .int
  | 30 => .int
  | 31 => .int
  | 32 => .array .int
  | 33 => .int
  | 34 => .int
  | 35 => .int
  | 36 => .int
  | 37 => .int
  | 38 => .int
  | 39 => .int
  | 40 => .array .int
  | 41 => .array .int
  | 42 => .array .int
  | 43 => .array .int
  | 44 => .array .int
  | 45 => .array .int
  | 46 => .array .boolean
  | 47 => .array .int
  | 48 => .array .int
  | 49 => .array .int
  | 50 => .array .long
  | 51 => .array .long
  | 52 => .array .boolean
  | 53 => .array .int
  | 54 => .array .int
  | 55 => .array .int
  | 56 => .array .int
  | 57 => .array .long
  | 58 => .int
  | 59 => .int
  | 60 => .array .long
  | 61 => .array .long
  | 62 => .array .boolean
  | 63 => .array .long
  | 64 => .array .long
  | 65 => .array .boolean
  | 66 => .int
  | 67 => .array .int
  | 68 => .array .int
  | 69 => .array .int
  | 70 => .boolean
  | 71 => .int
  | 72 => .int
  | 73 => .int
  | 74 => .array .int
  | 75 => .array .boolean
  | 76 => .array .int
  | 77 => .array .int
  | 78 => .array .int
  | 79 => .array .int
  | 80 => .array .int
  | 81 => .array .int
  | 82 => .array .int
  | 83 => .array .int
  | 84 => .array .boolean
  | 85 => .array .boolean
  | 86 => .array .int
  | 87 => .array .int
  | 88 => .int
  | 89 => .array .int
  | 90 => .array .int
  | 91 => .int
  | 92 => .array .int
  | 93 => .int
  | 94 => .array .boolean
  | 95 => .array .int
  | 96 => .boolean
  | 97 => .boolean
  | 98 => .boolean
  | 99 => .boolean
  | 100 => .array .int
  | 101 => .int
  | 102 => .int
  | 103 => .array .int
  | 104 => .int
  | 105 => .array .int
  | 106 => .int
  | 107 => .array .int
  | 108 => .int
  | 109 => .int
  | 110 => .array .int
  | 111 => .array .int
  | 112 => .array .int
  | 113 => .array .int
  | 114 => .array .int
  | 115 => .array .int
  | 116 => .int
  | 117 => .array .long
  | 118 => .array .int
  | 119 => .array .int
  | 120 => .array .int
  | 121 => .array .int
  | 122 => .array .int
  | 123 => .array .int
  | 124 => .array .int
  | _ => .array .boolean
theorem nmX12 : ∀ a, a < 126 → ∀ b, b < 126 → a ≠ b → (TX12 a).2.1 ≠ (TX12 b).2.1 := by decide +kernel
theorem tyX12_ok : ∀ k, k < 126 → parseFieldDescriptor (TX12 k).2.2.1 = some (tyX12 k) := by decide +kernel
abbrev cX12_in : ByteArray := prog_14_method_1_code
def yX12_in : MethodName := ⟨RX12, "in", "(III)Z"⟩
abbrev cX12_feed : ByteArray := prog_14_method_2_code
def yX12_feed : MethodName := ⟨RX12, "feed", "(IIIII)I"⟩
abbrev cX12_cut : ByteArray := prog_14_method_3_code
def yX12_cut : MethodName := ⟨RX12, "cut", "(I)I"⟩
abbrev cX12_mask : ByteArray := prog_14_method_4_code
def yX12_mask : MethodName := ⟨RX12, "mask", "(I)I"⟩
abbrev cX12_holds : ByteArray := prog_14_method_5_code
def yX12_holds : MethodName := ⟨RX12, "holds", "(III)Z"⟩
abbrev cX12_isPrefix : ByteArray := prog_14_method_6_code
def yX12_isPrefix : MethodName := ⟨RX12, "isPrefix", "(I)Z"⟩
abbrev cX12_prefixOf : ByteArray := prog_14_method_7_code
def yX12_prefixOf : MethodName := ⟨RX12, "prefixOf", "(II)I"⟩
abbrev cX12_prefix : ByteArray := prog_14_method_8_code
def yX12_prefix : MethodName := ⟨RX12, "prefix", "(II)I"⟩
abbrev cX12_isDomain : ByteArray := prog_14_method_9_code
def yX12_isDomain : MethodName := ⟨RX12, "isDomain", "(I)Z"⟩
abbrev cX12_isTie : ByteArray := prog_14_method_10_code
def yX12_isTie : MethodName := ⟨RX12, "isTie", "(I)Z"⟩
abbrev cX12_tieOf : ByteArray := prog_14_method_11_code
def yX12_tieOf : MethodName := ⟨RX12, "tieOf", "(II)I"⟩
abbrev cX12_provides : ByteArray := prog_14_method_12_code
def yX12_provides : MethodName := ⟨RX12, "provides", "(II)Z"⟩
abbrev cX12_domain : ByteArray := prog_14_method_13_code
def yX12_domain : MethodName := ⟨RX12, "domain", "()I"⟩
abbrev cX12_tie : ByteArray := prog_14_method_14_code
def yX12_tie : MethodName := ⟨RX12, "tie", "(III)I"⟩
abbrev cX12_pace : ByteArray := prog_14_method_15_code
def yX12_pace : MethodName := ⟨RX12, "pace", "(III)I"⟩
abbrev cX12_cone : ByteArray := prog_14_method_16_code
def yX12_cone : MethodName := ⟨RX12, "cone", "(II)I"⟩
abbrev cX12_ring : ByteArray := prog_14_method_17_code
def yX12_ring : MethodName := ⟨RX12, "ring", "(I)I"⟩
abbrev cX12_walk : ByteArray := prog_14_method_18_code
def yX12_walk : MethodName := ⟨RX12, "walk", "(I)I"⟩
abbrev cX12_letWay : ByteArray := prog_14_method_19_code
def yX12_letWay : MethodName := ⟨RX12, "letWay", "()I"⟩
abbrev cX12_today : ByteArray := prog_14_method_20_code
def yX12_today : MethodName := ⟨RX12, "today", "(I)I"⟩
abbrev cX12_right : ByteArray := prog_14_method_21_code
def yX12_right : MethodName := ⟨RX12, "right", "(IIIIII)I"⟩
abbrev cX12_strike : ByteArray := prog_14_method_22_code
def yX12_strike : MethodName := ⟨RX12, "strike", "(II)I"⟩
abbrev cX12_judged : ByteArray := prog_14_method_23_code
def yX12_judged : MethodName := ⟨RX12, "judged", "(IIII)I"⟩
abbrev cX12_judgedAnew : ByteArray := prog_14_method_24_code
def yX12_judgedAnew : MethodName := ⟨RX12, "judgedAnew", "(IIII)I"⟩
abbrev cX12_verdict : ByteArray := prog_14_method_25_code
def yX12_verdict : MethodName := ⟨RX12, "verdict", "(IIII)I"⟩
abbrev cX12_copy : ByteArray := prog_14_method_26_code
def yX12_copy : MethodName := ⟨RX12, "copy", "(II)V"⟩
abbrev cX12_nothing : ByteArray := prog_14_method_27_code
def yX12_nothing : MethodName := ⟨RX12, "nothing", "(I)V"⟩
abbrev cX12_isThere : ByteArray := prog_14_method_28_code
def yX12_isThere : MethodName := ⟨RX12, "isThere", "(I)Z"⟩
abbrev cX12_same : ByteArray := prog_14_method_29_code
def yX12_same : MethodName := ⟨RX12, "same", "(II)Z"⟩
abbrev cX12_marked : ByteArray := prog_14_method_30_code
def yX12_marked : MethodName := ⟨RX12, "marked", "(II)Z"⟩
abbrev cX12_addMark : ByteArray := prog_14_method_31_code
def yX12_addMark : MethodName := ⟨RX12, "addMark", "(II)V"⟩
abbrev cX12_dropMark : ByteArray := prog_14_method_32_code
def yX12_dropMark : MethodName := ⟨RX12, "dropMark", "(II)V"⟩
abbrev cX12_front : ByteArray := prog_14_method_33_code
def yX12_front : MethodName := ⟨RX12, "front", "(II)Z"⟩
abbrev cX12_isIn : ByteArray := prog_14_method_34_code
def yX12_isIn : MethodName := ⟨RX12, "isIn", "(II)Z"⟩
abbrev cX12_wordOf : ByteArray := prog_14_method_35_code
def yX12_wordOf : MethodName := ⟨RX12, "wordOf", "(J)I"⟩
abbrev cX12_wrong : ByteArray := prog_14_method_36_code
def yX12_wrong : MethodName := ⟨RX12, "wrong", "(I)V"⟩
abbrev cX12_byteAt : ByteArray := prog_14_method_37_code
def yX12_byteAt : MethodName := ⟨RX12, "byteAt", "(I)I"⟩
abbrev cX12_next : ByteArray := prog_14_method_38_code
def yX12_next : MethodName := ⟨RX12, "next", "()V"⟩
abbrev cX12_isSign : ByteArray := prog_14_method_39_code
def yX12_isSign : MethodName := ⟨RX12, "isSign", "(I)Z"⟩
abbrev cX12_isWord : ByteArray := prog_14_method_40_code
def yX12_isWord : MethodName := ⟨RX12, "isWord", "(I)Z"⟩
abbrev cX12_sign : ByteArray := prog_14_method_41_code
def yX12_sign : MethodName := ⟨RX12, "sign", "(I)V"⟩
abbrev cX12_within : ByteArray := prog_14_method_42_code
def yX12_within : MethodName := ⟨RX12, "within", "(II)I"⟩
abbrev cX12_openLevel : ByteArray := prog_14_method_43_code
def yX12_openLevel : MethodName := ⟨RX12, "openLevel", "()V"⟩
abbrev cX12_freshRow : ByteArray := prog_14_method_44_code
def yX12_freshRow : MethodName := ⟨RX12, "freshRow", "()V"⟩
abbrev cX12_endRow : ByteArray := prog_14_method_45_code
def yX12_endRow : MethodName := ⟨RX12, "endRow", "()V"⟩
abbrev cX12_follows : ByteArray := prog_14_method_46_code
def yX12_follows : MethodName := ⟨RX12, "follows", "(JJ)V"⟩
abbrev cX12_piece : ByteArray := prog_14_method_47_code
def yX12_piece : MethodName := ⟨RX12, "piece", "(JJZ)V"⟩
abbrev cX12_wayTest : ByteArray := prog_14_method_48_code
def yX12_wayTest : MethodName := ⟨RX12, "wayTest", "(I)V"⟩
abbrev cX12_addressRead : ByteArray := prog_14_method_49_code
def yX12_addressRead : MethodName := ⟨RX12, "addressRead", "()I"⟩
abbrev cX12_test : ByteArray := prog_14_method_50_code
def yX12_test : MethodName := ⟨RX12, "test", "()V"⟩
abbrev cX12_actRead : ByteArray := prog_14_method_51_code
def yX12_actRead : MethodName := ⟨RX12, "actRead", "()V"⟩
abbrev cX12_rowRead : ByteArray := prog_14_method_52_code
def yX12_rowRead : MethodName := ⟨RX12, "rowRead", "()V"⟩
abbrev cX12_policy : ByteArray := prog_14_method_53_code
def yX12_policy : MethodName := ⟨RX12, "policy", "()I"⟩
abbrev cX12_fault : ByteArray := prog_14_method_54_code
def yX12_fault : MethodName := ⟨RX12, "fault", "()I"⟩
abbrev cX12_waysMatch : ByteArray := prog_14_method_55_code
def yX12_waysMatch : MethodName := ⟨RX12, "waysMatch", "(III)Z"⟩
abbrev cX12_tieWord : ByteArray := prog_14_method_56_code
def yX12_tieWord : MethodName := ⟨RX12, "tieWord", "(II)I"⟩
abbrev cX12_related : ByteArray := prog_14_method_57_code
def yX12_related : MethodName := ⟨RX12, "related", "(III)Z"⟩
abbrev cX12_isSo : ByteArray := prog_14_method_58_code
def yX12_isSo : MethodName := ⟨RX12, "isSo", "(IIIII)Z"⟩
abbrev cX12_through : ByteArray := prog_14_method_59_code
def yX12_through : MethodName := ⟨RX12, "through", "(IIII)Z"⟩
abbrev cX12_route : ByteArray := prog_14_method_60_code
def yX12_route : MethodName := ⟨RX12, "route", "(IIII)I"⟩
abbrev cX12_judge : ByteArray := prog_14_method_61_code
def yX12_judge : MethodName := ⟨RX12, "judge", "(III)I"⟩
abbrev cX12_hand : ByteArray := prog_14_method_62_code
def yX12_hand : MethodName := ⟨RX12, "hand", "(I)I"⟩
abbrev cX12_init : ByteArray := prog_14_method_63_code
def yX12_init : MethodName := ⟨RX12, "<init>", "()V"⟩
abbrev cX12_slot : ByteArray := prog_14_method_64_code
def yX12_slot : MethodName := ⟨RX12, "slot", "(III)I"⟩
abbrev cX12_sideOf : ByteArray := prog_14_method_65_code
def yX12_sideOf : MethodName := ⟨RX12, "sideOf", "(II)I"⟩
abbrev cX12_isAt : ByteArray := prog_14_method_66_code
def yX12_isAt : MethodName := ⟨RX12, "isAt", "(II)Z"⟩
abbrev cX12_partnerOf : ByteArray := prog_14_method_67_code
def yX12_partnerOf : MethodName := ⟨RX12, "partnerOf", "(II)I"⟩
abbrev cX12_unlike : ByteArray := prog_14_method_68_code
def yX12_unlike : MethodName := ⟨RX12, "unlike", "(IIIIII)I"⟩
abbrev cX12_beats : ByteArray := prog_14_method_69_code
def yX12_beats : MethodName := ⟨RX12, "beats", "(IIII)Z"⟩
abbrev cX12_candidate : ByteArray := prog_14_method_70_code
def yX12_candidate : MethodName := ⟨RX12, "candidate", "(III)I"⟩
abbrev cX12_candidates : ByteArray := prog_14_method_71_code
def yX12_candidates : MethodName := ⟨RX12, "candidates", "(II)V"⟩
abbrev cX12_best : ByteArray := prog_14_method_72_code
def yX12_best : MethodName := ⟨RX12, "best", "(II)I"⟩
abbrev cX12_isBelow : ByteArray := prog_14_method_73_code
def yX12_isBelow : MethodName := ⟨RX12, "isBelow", "(II)Z"⟩
abbrev cX12_pick : ByteArray := prog_14_method_74_code
def yX12_pick : MethodName := ⟨RX12, "pick", "(II)I"⟩
abbrev cX12_look : ByteArray := prog_14_method_75_code
def yX12_look : MethodName := ⟨RX12, "look", "(II)V"⟩
abbrev cX12_say : ByteArray := prog_14_method_76_code
def yX12_say : MethodName := ⟨RX12, "say", "(III)V"⟩
abbrev cX12_lookAll : ByteArray := prog_14_method_77_code
def yX12_lookAll : MethodName := ⟨RX12, "lookAll", "(I)V"⟩
abbrev cX12_sayAll : ByteArray := prog_14_method_78_code
def yX12_sayAll : MethodName := ⟨RX12, "sayAll", "(II)V"⟩
abbrev cX12_rethink : ByteArray := prog_14_method_79_code
def yX12_rethink : MethodName := ⟨RX12, "rethink", "()V"⟩
abbrev cX12_raise : ByteArray := prog_14_method_80_code
def yX12_raise : MethodName := ⟨RX12, "raise", "(IZ)I"⟩
abbrev cX12_use : ByteArray := prog_14_method_81_code
def yX12_use : MethodName := ⟨RX12, "use", "(IIII)I"⟩
abbrev cX12_rule : ByteArray := prog_14_method_82_code
def yX12_rule : MethodName := ⟨RX12, "rule", "(IIZ)I"⟩
abbrev cX12_announce : ByteArray := prog_14_method_83_code
def yX12_announce : MethodName := ⟨RX12, "announce", "(III)I"⟩
abbrev cX12_withdraw : ByteArray := prog_14_method_84_code
def yX12_withdraw : MethodName := ⟨RX12, "withdraw", "(II)I"⟩
abbrev cX12_nextEvent : ByteArray := prog_14_method_85_code
def yX12_nextEvent : MethodName := ⟨RX12, "nextEvent", "()I"⟩
abbrev cX12_eventAt : ByteArray := prog_14_method_86_code
def yX12_eventAt : MethodName := ⟨RX12, "eventAt", "(I)I"⟩
abbrev cX12_doEvent : ByteArray := prog_14_method_87_code
def yX12_doEvent : MethodName := ⟨RX12, "doEvent", "(I)V"⟩
abbrev cX12_go : ByteArray := prog_14_method_88_code
def yX12_go : MethodName := ⟨RX12, "go", "(I)I"⟩
abbrev cX12_until : ByteArray := prog_14_method_89_code
def yX12_until : MethodName := ⟨RX12, "until", "(I)I"⟩
abbrev cX12_picked : ByteArray := prog_14_method_90_code
def yX12_picked : MethodName := ⟨RX12, "picked", "(II)I"⟩
abbrev cX12_heard : ByteArray := prog_14_method_91_code
def yX12_heard : MethodName := ⟨RX12, "heard", "(IIII)I"⟩
abbrev cX12_why : ByteArray := prog_14_method_92_code
def yX12_why : MethodName := ⟨RX12, "why", "(III)I"⟩
abbrev cX12_three : ByteArray := prog_14_method_93_code
def yX12_three : MethodName := ⟨RX12, "three", "(III)I"⟩
abbrev cX12_fails : ByteArray := prog_14_method_94_code
def yX12_fails : MethodName := ⟨RX12, "fails", "(II)V"⟩
abbrev cX12_number : ByteArray := prog_14_method_95_code
def yX12_number : MethodName := ⟨RX12, "number", "(II)I"⟩
abbrev cX12_partOf : ByteArray := prog_14_method_96_code
def yX12_partOf : MethodName := ⟨RX12, "partOf", "(IIZ)Z"⟩
abbrev cX12_originRight : ByteArray := prog_14_method_97_code
def yX12_originRight : MethodName := ⟨RX12, "originRight", "(II)Z"⟩
abbrev cX12_wayRight : ByteArray := prog_14_method_98_code
def yX12_wayRight : MethodName := ⟨RX12, "wayRight", "(II)Z"⟩
abbrev cX12_costRight : ByteArray := prog_14_method_99_code
def yX12_costRight : MethodName := ⟨RX12, "costRight", "(II)Z"⟩
abbrev cX12_marksRight : ByteArray := prog_14_method_100_code
def yX12_marksRight : MethodName := ⟨RX12, "marksRight", "(II)Z"⟩
abbrev cX12_attributes : ByteArray := prog_14_method_101_code
def yX12_attributes : MethodName := ⟨RX12, "attributes", "(II)V"⟩
abbrev cX12_message : ByteArray := prog_14_method_102_code
def yX12_message : MethodName := ⟨RX12, "message", "()I"⟩
abbrev cX12_part : ByteArray := prog_14_method_103_code
def yX12_part : MethodName := ⟨RX12, "part", "(I)I"⟩
abbrev cX12_hear : ByteArray := prog_14_method_104_code
def yX12_hear : MethodName := ⟨RX12, "hear", "(II)I"⟩
abbrev cX12_octet1 : ByteArray := prog_14_method_105_code
def yX12_octet1 : MethodName := ⟨RX12, "octet1", "(I)V"⟩
abbrev cX12_octet4 : ByteArray := prog_14_method_106_code
def yX12_octet4 : MethodName := ⟨RX12, "octet4", "(I)V"⟩
abbrev cX12_prefixOut : ByteArray := prog_14_method_107_code
def yX12_prefixOut : MethodName := ⟨RX12, "prefixOut", "(I)V"⟩
abbrev cX12_write : ByteArray := prog_14_method_108_code
def yX12_write : MethodName := ⟨RX12, "write", "(III)I"⟩
abbrev cX12_octet : ByteArray := prog_14_method_109_code
def yX12_octet : MethodName := ⟨RX12, "octet", "(I)I"⟩
abbrev cX12_sends : ByteArray := prog_14_method_110_code
def yX12_sends : MethodName := ⟨RX12, "sends", "(II)I"⟩
abbrev cX12_goes : ByteArray := prog_14_method_111_code
def yX12_goes : MethodName := ⟨RX12, "goes", "(II)I"⟩
abbrev cX12_letter : ByteArray := prog_14_method_112_code
def yX12_letter : MethodName := ⟨RX12, "letter", "(II)I"⟩
abbrev cX12_led : ByteArray := prog_14_method_113_code
def yX12_led : MethodName := ⟨RX12, "led", "(I)I"⟩
abbrev cX12_demand : ByteArray := prog_14_method_114_code
def yX12_demand : MethodName := ⟨RX12, "demand", "(III)I"⟩
abbrev cX12_load : ByteArray := prog_14_method_115_code
def yX12_load : MethodName := ⟨RX12, "load", "(II)I"⟩
abbrev cX12_units : ByteArray := prog_14_method_116_code
def yX12_units : MethodName := ⟨RX12, "units", "(I)I"⟩
abbrev cX12_nodeOf : ByteArray := prog_14_method_117_code
def yX12_nodeOf : MethodName := ⟨RX12, "nodeOf", "(II)I"⟩
abbrev cX12_aim : ByteArray := prog_14_method_118_code
def yX12_aim : MethodName := ⟨RX12, "aim", "(I)I"⟩
abbrev cX12_costOf : ByteArray := prog_14_method_119_code
def yX12_costOf : MethodName := ⟨RX12, "costOf", "(IIII)I"⟩
abbrev cX12_least : ByteArray := prog_14_method_120_code
def yX12_least : MethodName := ⟨RX12, "least", "(I)I"⟩
abbrev cX12_differ : ByteArray := prog_14_method_121_code
def yX12_differ : MethodName := ⟨RX12, "differ", "(II)J"⟩
abbrev cX12_clear : ByteArray := prog_14_method_122_code
def yX12_clear : MethodName := ⟨RX12, "clear", "()I"⟩
abbrev cX12_isWished : ByteArray := prog_14_method_123_code
def yX12_isWished : MethodName := ⟨RX12, "isWished", "(II)Z"⟩
abbrev cX12_wish : ByteArray := prog_14_method_124_code
def yX12_wish : MethodName := ⟨RX12, "wish", "()I"⟩
abbrev cX12_states : ByteArray := prog_14_method_125_code
def yX12_states : MethodName := ⟨RX12, "states", "()I"⟩
abbrev cX12_open : ByteArray := prog_14_method_126_code
def yX12_open : MethodName := ⟨RX12, "open", "(I)V"⟩
abbrev cX12_isOffered : ByteArray := prog_14_method_127_code
def yX12_isOffered : MethodName := ⟨RX12, "isOffered", "(I)Z"⟩
abbrev cX12_acted : ByteArray := prog_14_method_128_code
def yX12_acted : MethodName := ⟨RX12, "acted", "(I)I"⟩
abbrev cX12_isRest : ByteArray := prog_14_method_129_code
def yX12_isRest : MethodName := ⟨RX12, "isRest", "(I)Z"⟩
abbrev cX12_rests : ByteArray := prog_14_method_130_code
def yX12_rests : MethodName := ⟨RX12, "rests", "()I"⟩
abbrev cX12_rest : ByteArray := prog_14_method_131_code
def yX12_rest : MethodName := ⟨RX12, "rest", "(II)I"⟩
abbrev cX12_tries : ByteArray := prog_14_method_132_code
def yX12_tries : MethodName := ⟨RX12, "tries", "(I)I"⟩
abbrev cX12_count : ByteArray := prog_14_method_133_code
def yX12_count : MethodName := ⟨RX12, "count", "(I)I"⟩
abbrev vwCl : List vw_C := [(RX0, TX0, 6), (RX1, TX1, 9), (RX2, TX2, 11), (RX3, TX3, 17), (RX4, TX4, 15), (RX5, TX5, 6), (RX6, TX6, 20), (RX7, TX7, 12), (RX8, TX8, 13), (RX9, TX9, 9), (RX10, TX10, 19), (RX11, TX11, 12), (RX12, TX12, 126)]
def lw_ok : List Cond := lw_tbl.filter goodWord
theorem lw_t1 {w : Cond} (h : w ∈ tables_1_1) : w ∈ lw_tbl := List.mem_append_right _ (show w ∈ tables_1 from List.mem_append_left _ h)
theorem lw_i1 {w : Cond} (i : Nat) (h : tables_1_1[i]? = some w) (hg : goodWord w = true) : w ∈ lw_ok := List.mem_filter.mpr ⟨lw_t1 (List.mem_of_getElem? h), hg⟩
theorem lw_t2 {w : Cond} (h : w ∈ tables_1_2) : w ∈ lw_tbl := List.mem_append_right _ (show w ∈ tables_1 from List.mem_append_right _ (List.mem_append_left _ h))
theorem lw_i2 {w : Cond} (i : Nat) (h : tables_1_2[i]? = some w) (hg : goodWord w = true) : w ∈ lw_ok := List.mem_filter.mpr ⟨lw_t2 (List.mem_of_getElem? h), hg⟩
theorem lw_t3 {w : Cond} (h : w ∈ tables_1_3) : w ∈ lw_tbl := List.mem_append_right _ (show w ∈ tables_1 from List.mem_append_right _ (List.mem_append_right _ (List.mem_append_left _ h)))
theorem lw_i3 {w : Cond} (i : Nat) (h : tables_1_3[i]? = some w) (hg : goodWord w = true) : w ∈ lw_ok := List.mem_filter.mpr ⟨lw_t3 (List.mem_of_getElem? h), hg⟩
theorem lw_t4 {w : Cond} (h : w ∈ tables_1_4) : w ∈ lw_tbl := List.mem_append_right _ (show w ∈ tables_1 from List.mem_append_right _ (List.mem_append_right _ (List.mem_append_right _ (List.mem_append_left _ h))))
theorem lw_i4 {w : Cond} (i : Nat) (h : tables_1_4[i]? = some w) (hg : goodWord w = true) : w ∈ lw_ok := List.mem_filter.mpr ⟨lw_t4 (List.mem_of_getElem? h), hg⟩
theorem lw_t5 {w : Cond} (h : w ∈ tables_1_5) : w ∈ lw_tbl := List.mem_append_right _ (show w ∈ tables_1 from List.mem_append_right _ (List.mem_append_right _ (List.mem_append_right _ (List.mem_append_right _ (List.mem_append_left _ h)))))
theorem lw_i5 {w : Cond} (i : Nat) (h : tables_1_5[i]? = some w) (hg : goodWord w = true) : w ∈ lw_ok := List.mem_filter.mpr ⟨lw_t5 (List.mem_of_getElem? h), hg⟩
theorem lw_t6 {w : Cond} (h : w ∈ tables_1_6) : w ∈ lw_tbl := List.mem_append_right _ (show w ∈ tables_1 from List.mem_append_right _ (List.mem_append_right _ (List.mem_append_right _ (List.mem_append_right _ (List.mem_append_right _ (List.mem_append_left _ h))))))
theorem lw_i6 {w : Cond} (i : Nat) (h : tables_1_6[i]? = some w) (hg : goodWord w = true) : w ∈ lw_ok := List.mem_filter.mpr ⟨lw_t6 (List.mem_of_getElem? h), hg⟩
theorem lw_t7 {w : Cond} (h : w ∈ tables_1_7) : w ∈ lw_tbl := List.mem_append_right _ (show w ∈ tables_1 from List.mem_append_right _ (List.mem_append_right _ (List.mem_append_right _ (List.mem_append_right _ (List.mem_append_right _ (List.mem_append_right _ (List.mem_append_left _ h)))))))
theorem lw_i7 {w : Cond} (i : Nat) (h : tables_1_7[i]? = some w) (hg : goodWord w = true) : w ∈ lw_ok := List.mem_filter.mpr ⟨lw_t7 (List.mem_of_getElem? h), hg⟩
theorem lw_t8 {w : Cond} (h : w ∈ tables_1_8) : w ∈ lw_tbl := List.mem_append_right _ (show w ∈ tables_1 from List.mem_append_right _ (List.mem_append_right _ (List.mem_append_right _ (List.mem_append_right _ (List.mem_append_right _ (List.mem_append_right _ (List.mem_append_right _ (List.mem_append_left _ h))))))))
theorem lw_i8 {w : Cond} (i : Nat) (h : tables_1_8[i]? = some w) (hg : goodWord w = true) : w ∈ lw_ok := List.mem_filter.mpr ⟨lw_t8 (List.mem_of_getElem? h), hg⟩
theorem lw_t9 {w : Cond} (h : w ∈ tables_1_9) : w ∈ lw_tbl := List.mem_append_right _ (show w ∈ tables_1 from List.mem_append_right _ (List.mem_append_right _ (List.mem_append_right _ (List.mem_append_right _ (List.mem_append_right _ (List.mem_append_right _ (List.mem_append_right _ (List.mem_append_right _ (List.mem_append_left _ h)))))))))
theorem lw_i9 {w : Cond} (i : Nat) (h : tables_1_9[i]? = some w) (hg : goodWord w = true) : w ∈ lw_ok := List.mem_filter.mpr ⟨lw_t9 (List.mem_of_getElem? h), hg⟩
theorem lw_t10 {w : Cond} (h : w ∈ tables_1_10) : w ∈ lw_tbl := List.mem_append_right _ (show w ∈ tables_1 from List.mem_append_right _ (List.mem_append_right _ (List.mem_append_right _ (List.mem_append_right _ (List.mem_append_right _ (List.mem_append_right _ (List.mem_append_right _ (List.mem_append_right _ (List.mem_append_right _ (List.mem_append_left _ h))))))))))
theorem lw_i10 {w : Cond} (i : Nat) (h : tables_1_10[i]? = some w) (hg : goodWord w = true) : w ∈ lw_ok := List.mem_filter.mpr ⟨lw_t10 (List.mem_of_getElem? h), hg⟩
theorem lw_t11 {w : Cond} (h : w ∈ tables_1_11) : w ∈ lw_tbl := List.mem_append_right _ (show w ∈ tables_1 from List.mem_append_right _ (List.mem_append_right _ (List.mem_append_right _ (List.mem_append_right _ (List.mem_append_right _ (List.mem_append_right _ (List.mem_append_right _ (List.mem_append_right _ (List.mem_append_right _ (List.mem_append_right _ (h)))))))))))
theorem lw_i11 {w : Cond} (i : Nat) (h : tables_1_11[i]? = some w) (hg : goodWord w = true) : w ∈ lw_ok := List.mem_filter.mpr ⟨lw_t11 (List.mem_of_getElem? h), hg⟩
theorem lw_in {w : Cond} (i : Nat) (h : lw_tbl[i]? = some w) (hg : goodWord w = true) : w ∈ lw_ok := List.mem_filter.mpr ⟨List.mem_of_getElem? h, hg⟩
abbrev gTy (c : Nat → ClassId) : List (ClassId × FieldType) := [(c 0, .int), (c 1, .long), (c 2, .byte), (c 3, .boolean), (c 4, .object RX7), (c 5, .object RX0), (c 6, .object RX9), (c 7, .object RX5)]
/-- the globals of this claim -/
abbrev gG (l : Launch) (D : va_G) (c : Nat → ClassId) (H0 : Heap) (sa : Nat × Nat × (Nat → Int32)) : sG := (l, D, gTy c, H0, vwCl, lw_ok, sa)
theorem gOk (l : Launch) (D : va_G) (c : Nat → ClassId) (H0 : Heap) (sa : Nat × Nat × (Nat → Int32)) : sOk (gG l D c H0 sa) := fun w hw => good_of_word (List.mem_filter.mp hw).2
abbrev mX0_init : sM := (yX0_init, cX0_init, 2, none)
abbrev mX0_goBy : sM := (yX0_goBy, cX0_goBy, 5, none)
abbrev mX0_firstUnlikeStep : sM := (yX0_firstUnlikeStep, cX0_firstUnlikeStep, 4, (some .int))
abbrev mX0_prefers : sM := (yX0_prefers, cX0_prefers, 5, (some .boolean))
abbrev mX0_compareAt : sM := (yX0_compareAt, cX0_compareAt, 3, (some .int))
abbrev mX1_init : sM := (yX1_init, cX1_init, 2, none)
abbrev mX1_addPolicy : sM := (yX1_addPolicy, cX1_addPolicy, 2, (some .int))
abbrev mX1_lets : sM := (yX1_lets, cX1_lets, 5, (some .boolean))
abbrev mX1_goThrough : sM := (yX1_goThrough, cX1_goThrough, 11, none)
abbrev mX1_isSo : sM := (yX1_isSo, cX1_isSo, 8, (some .boolean))
abbrev mX1_doActs : sM := (yX1_doActs, cX1_doActs, 7, none)
abbrev mX2_init : sM := (yX2_init, cX2_init, 2, none)
abbrev mX2_tieFor : sM := (yX2_tieFor, cX2_tieFor, 8, (some .int))
abbrev mX2_partnerFor : sM := (yX2_partnerFor, cX2_partnerFor, 5, (some .int))
abbrev mX2_travel : sM := (yX2_travel, cX2_travel, 6, (some .int))
abbrev mX2_send : sM := (yX2_send, cX2_send, 4, (some .int))
abbrev mX2_addDemand : sM := (yX2_addDemand, cX2_addDemand, 4, (some .int))
abbrev mX2_unitsOver : sM := (yX2_unitsOver, cX2_unitsOver, 6, (some .int))
abbrev mX2_unitsThat : sM := (yX2_unitsThat, cX2_unitsThat, 4, (some .int))
abbrev mX2_leastTable : sM := (yX2_leastTable, cX2_leastTable, 3, (some .int))
abbrev mX2_leastBelow : sM := (yX2_leastBelow, cX2_leastBelow, 6, (some .int))
abbrev mX2_isSplit : sM := (yX2_isSplit, cX2_isSplit, 7, (some .boolean))
abbrev mX2_aimBit : sM := (yX2_aimBit, cX2_aimBit, 1, (some .int))
abbrev mX2_unlikeAddresses : sM := (yX2_unlikeAddresses, cX2_unlikeAddresses, 8, (some .long))
abbrev mX2_layBorders : sM := (yX2_layBorders, cX2_layBorders, 5, (some .int))
abbrev mX2_insertBorder : sM := (yX2_insertBorder, cX2_insertBorder, 5, none)
abbrev mX3_init : sM := (yX3_init, cX3_init, 1, none)
abbrev mX3_read : sM := (yX3_read, cX3_read, 4, (some .int))
abbrev mX3_forget : sM := (yX3_forget, cX3_forget, 1, none)
abbrev mX3_readParts : sM := (yX3_readParts, cX3_readParts, 4, none)
abbrev mX3_note : sM := (yX3_note, cX3_note, 3, none)
abbrev mX3_pairAt : sM := (yX3_pairAt, cX3_pairAt, 2, (some .int))
abbrev mX3_fourAt : sM := (yX3_fourAt, cX3_fourAt, 2, (some .int))
abbrev mX3_readPrefixes : sM := (yX3_readPrefixes, cX3_readPrefixes, 10, (some .int))
abbrev mX3_readAttributes : sM := (yX3_readAttributes, cX3_readAttributes, 7, none)
abbrev mX3_readAttribute : sM := (yX3_readAttribute, cX3_readAttribute, 8, none)
abbrev mX3_carry : sM := (yX3_carry, cX3_carry, 3, none)
abbrev mX3_readOrigin : sM := (yX3_readOrigin, cX3_readOrigin, 3, (some .boolean))
abbrev mX3_readCost : sM := (yX3_readCost, cX3_readCost, 4, (some .boolean))
abbrev mX3_readMarks : sM := (yX3_readMarks, cX3_readMarks, 4, (some .boolean))
abbrev mX3_keepMark : sM := (yX3_keepMark, cX3_keepMark, 3, none)
abbrev mX3_readWay : sM := (yX3_readWay, cX3_readWay, 9, (some .boolean))
abbrev mX3_sortWithoutSign : sM := (yX3_sortWithoutSign, cX3_sortWithoutSign, 6, none)
abbrev mX3_told : sM := (yX3_told, cX3_told, 2, (some .int))
abbrev mX3_placeTold : sM := (yX3_placeTold, cX3_placeTold, 2, (some .int))
abbrev mX3_toldInAll : sM := (yX3_toldInAll, cX3_toldInAll, 2, (some .int))
abbrev mX3_toldOfRow : sM := (yX3_toldOfRow, cX3_toldOfRow, 3, (some .int))
abbrev mX3_putDown : sM := (yX3_putDown, cX3_putDown, 6, (some .int))
abbrev mX3_putAttributes : sM := (yX3_putAttributes, cX3_putAttributes, 3, none)
abbrev mX3_putHead : sM := (yX3_putHead, cX3_putHead, 4, none)
abbrev mX3_putPrefix : sM := (yX3_putPrefix, cX3_putPrefix, 5, none)
abbrev mX3_putNumber : sM := (yX3_putNumber, cX3_putNumber, 4, none)
abbrev mX4_init : sM := (yX4_init, cX4_init, 1, none)
abbrev mX4_isWish : sM := (yX4_isWish, cX4_isWish, 4, (some .boolean))
abbrev mX4_find : sM := (yX4_find, cX4_find, 9, (some .int))
abbrev mX4_addWish : sM := (yX4_addWish, cX4_addWish, 5, (some .int))
abbrev mX4_forget : sM := (yX4_forget, cX4_forget, 3, (some .int))
abbrev mX4_prepare : sM := (yX4_prepare, cX4_prepare, 3, none)
abbrev mX4_need : sM := (yX4_need, cX4_need, 3, none)
abbrev mX4_actOf : sM := (yX4_actOf, cX4_actOf, 5, (some .int))
abbrev mX4_isRest : sM := (yX4_isRest, cX4_isRest, 2, (some .boolean))
abbrev mX4_unfold : sM := (yX4_unfold, cX4_unfold, 3, none)
abbrev mX4_figure : sM := (yX4_figure, cX4_figure, 4, (some .int))
abbrev mX4_countUp : sM := (yX4_countUp, cX4_countUp, 2, none)
abbrev mX4_findRests : sM := (yX4_findRests, cX4_findRests, 2, none)
abbrev mX4_keepRest : sM := (yX4_keepRest, cX4_keepRest, 2, none)
abbrev mX4_wayInRest : sM := (yX4_wayInRest, cX4_wayInRest, 4, (some .int))
abbrev mX4_explore : sM := (yX4_explore, cX4_explore, 3, none)
abbrev mX4_makeRoom : sM := (yX4_makeRoom, cX4_makeRoom, 2, none)
abbrev mX4_spread : sM := (yX4_spread, cX4_spread, 5, (some .int))
abbrev mX4_addNeighbours : sM := (yX4_addNeighbours, cX4_addNeighbours, 6, (some .int))
abbrev mX4_leadBack : sM := (yX4_leadBack, cX4_leadBack, 3, (some .int))
abbrev mX4_addSources : sM := (yX4_addSources, cX4_addSources, 7, (some .int))
abbrev mX5_init : sM := (yX5_init, cX5_init, 7, none)
abbrev mX5_tells : sM := (yX5_tells, cX5_tells, 13, (some .boolean))
abbrev mX6_init : sM := (yX6_init, cX6_init, 1, none)
abbrev mX6_read : sM := (yX6_read, cX6_read, 5, none)
abbrev mX6_result : sM := (yX6_result, cX6_result, 1, (some (.object "DomainHouse$Policy")))
abbrev mX6_split : sM := (yX6_split, cX6_split, 6, none)
abbrev mX6_isLetter : sM := (yX6_isLetter, cX6_isLetter, 1, (some .boolean))
abbrev mX6_isFigure : sM := (yX6_isFigure, cX6_isFigure, 1, (some .boolean))
abbrev mX6_putNumber : sM := (yX6_putNumber, cX6_putNumber, 6, none)
abbrev mX6_putToken : sM := (yX6_putToken, cX6_putToken, 4, none)
abbrev mX6_wordAt : sM := (yX6_wordAt, cX6_wordAt, 8, (some .int))
abbrev mX6_fail : sM := (yX6_fail, cX6_fail, 2, none)
abbrev mX6_step : sM := (yX6_step, cX6_step, 1, none)
abbrev mX6_take : sM := (yX6_take, cX6_take, 2, (some .boolean))
abbrev mX6_expect : sM := (yX6_expect, cX6_expect, 2, none)
abbrev mX6_number : sM := (yX6_number, cX6_number, 4, (some .int))
abbrev mX6_readRow : sM := (yX6_readRow, cX6_readRow, 5, none)
abbrev mX6_isAct : sM := (yX6_isAct, cX6_isAct, 1, (some .boolean))
abbrev mX6_readAct : sM := (yX6_readAct, cX6_readAct, 2, none)
abbrev mX6_readTest : sM := (yX6_readTest, cX6_readTest, 3, none)
abbrev mX6_isTest : sM := (yX6_isTest, cX6_isTest, 1, (some .boolean))
abbrev mX6_oneOf : sM := (yX6_oneOf, cX6_oneOf, 4, (some .int))
abbrev mX6_verdictOf : sM := (yX6_verdictOf, cX6_verdictOf, 1, (some .int))
abbrev mX6_relation : sM := (yX6_relation, cX6_relation, 2, (some .int))
abbrev mX6_readHeldIn : sM := (yX6_readHeldIn, cX6_readHeldIn, 6, none)
abbrev mX6_readWay : sM := (yX6_readWay, cX6_readWay, 2, none)
abbrev mX6_readBranches : sM := (yX6_readBranches, cX6_readBranches, 15, none)
abbrev mX6_beginsPiece : sM := (yX6_beginsPiece, cX6_beginsPiece, 1, (some .boolean))
abbrev mX6_readGroup : sM := (yX6_readGroup, cX6_readGroup, 2, none)
abbrev mX6_readPlace : sM := (yX6_readPlace, cX6_readPlace, 2, none)
abbrev mX6_readRepeat : sM := (yX6_readRepeat, cX6_readRepeat, 4, none)
abbrev mX6_join : sM := (yX6_join, cX6_join, 6, none)
abbrev mX6_putTest : sM := (yX6_putTest, cX6_putTest, 6, none)
abbrev mX6_put : sM := (yX6_put, cX6_put, 2, none)
abbrev mX7_init : sM := (yX7_init, cX7_init, 1, none)
abbrev mX7_begin : sM := (yX7_begin, cX7_begin, 3, none)
abbrev mX7_become : sM := (yX7_become, cX7_become, 2, none)
abbrev mX7_vanish : sM := (yX7_vanish, cX7_vanish, 1, none)
abbrev mX7_isAlike : sM := (yX7_isAlike, cX7_isAlike, 3, (some .boolean))
abbrev mX7_passes : sM := (yX7_passes, cX7_passes, 3, (some .boolean))
abbrev mX7_sharesFirst : sM := (yX7_sharesFirst, cX7_sharesFirst, 2, (some .boolean))
abbrev mX7_putInFront : sM := (yX7_putInFront, cX7_putInFront, 4, (some .boolean))
abbrev mX7_hasMark : sM := (yX7_hasMark, cX7_hasMark, 3, (some .boolean))
abbrev mX7_addMark : sM := (yX7_addMark, cX7_addMark, 5, none)
abbrev mX7_dropMark : sM := (yX7_dropMark, cX7_dropMark, 4, none)
abbrev mX8_init : sM := (yX8_init, cX8_init, 4, none)
abbrev mX8_slotOf : sM := (yX8_slotOf, cX8_slotOf, 4, (some .int))
abbrev mX8_schedule : sM := (yX8_schedule, cX8_schedule, 4, none)
abbrev mX8_cancel : sM := (yX8_cancel, cX8_cancel, 3, none)
abbrev mX8_doNext : sM := (yX8_doNext, cX8_doNext, 6, (some .boolean))
abbrev mX8_passTo : sM := (yX8_passTo, cX8_passTo, 2, none)
abbrev mX8_handOver : sM := (yX8_handOver, cX8_handOver, 5, none)
abbrev mX8_takeIn : sM := (yX8_takeIn, cX8_takeIn, 10, (some .int))
abbrev mX8_silence : sM := (yX8_silence, cX8_silence, 6, none)
abbrev mX8_tellAllAnew : sM := (yX8_tellAllAnew, cX8_tellAllAnew, 4, none)
abbrev mX8_lookAtAll : sM := (yX8_lookAtAll, cX8_lookAtAll, 3, none)
abbrev mX8_sayAll : sM := (yX8_sayAll, cX8_sayAll, 4, none)
abbrev mX8_look : sM := (yX8_look, cX8_look, 8, none)
abbrev mX8_gather : sM := (yX8_gather, cX8_gather, 8, none)
abbrev mX8_pickPlain : sM := (yX8_pickPlain, cX8_pickPlain, 3, (some .int))
abbrev mX8_pickGrouped : sM := (yX8_pickGrouped, cX8_pickGrouped, 4, (some .int))
abbrev mX8_lastStanding : sM := (yX8_lastStanding, cX8_lastStanding, 5, (some .int))
abbrev mX8_isFirstOfGroup : sM := (yX8_isFirstOfGroup, cX8_isFirstOfGroup, 3, (some .boolean))
abbrev mX8_bestOfGroup : sM := (yX8_bestOfGroup, cX8_bestOfGroup, 5, (some .int))
abbrev mX8_insertWinner : sM := (yX8_insertWinner, cX8_insertWinner, 4, none)
abbrev mX8_groupOrder : sM := (yX8_groupOrder, cX8_groupOrder, 2, (some .long))
abbrev mX8_say : sM := (yX8_say, cX8_say, 7, none)
abbrev mX8_compose : sM := (yX8_compose, cX8_compose, 7, none)
abbrev mX8_reason : sM := (yX8_reason, cX8_reason, 10, (some .int))
abbrev mX8_candidateOver : sM := (yX8_candidateOver, cX8_candidateOver, 3, (some .int))
abbrev mX8_threeInRing : sM := (yX8_threeInRing, cX8_threeInRing, 9, (some .int))
abbrev mX9_init : sM := (yX9_init, cX9_init, 5, none)
abbrev mX9_placeOf : sM := (yX9_placeOf, cX9_placeOf, 2, (some .int))
abbrev mX9_end : sM := (yX9_end, cX9_end, 2, (some .int))
abbrev mX9_sideOf : sM := (yX9_sideOf, cX9_sideOf, 2, (some .int))
abbrev mX9_partnerRole : sM := (yX9_partnerRole, cX9_partnerRole, 2, (some .int))
abbrev mX10_init : sM := (yX10_init, cX10_init, 1, none)
abbrev mX10_maskOf : sM := (yX10_maskOf, cX10_maskOf, 1, (some .int))
abbrev mX10_addPrefix : sM := (yX10_addPrefix, cX10_addPrefix, 3, (some .int))
abbrev mX10_findPrefix : sM := (yX10_findPrefix, cX10_findPrefix, 4, (some .int))
abbrev mX10_addDomain : sM := (yX10_addDomain, cX10_addDomain, 1, (some .int))
abbrev mX10_addTie : sM := (yX10_addTie, cX10_addTie, 4, (some .int))
abbrev mX10_tieBetween : sM := (yX10_tieBetween, cX10_tieBetween, 5, (some .int))
abbrev mX10_coneOf : sM := (yX10_coneOf, cX10_coneOf, 6, (some .int))
abbrev mX10_findRing : sM := (yX10_findRing, cX10_findRing, 3, (some .int))
abbrev mX10_shortestRing : sM := (yX10_shortestRing, cX10_shortestRing, 7, (some .int))
abbrev mX10_fillRing : sM := (yX10_fillRing, cX10_fillRing, 4, none)
abbrev mX10_leastCustomer : sM := (yX10_leastCustomer, cX10_leastCustomer, 6, (some .int))
abbrev mX10_firstWrongStep : sM := (yX10_firstWrongStep, cX10_firstWrongStep, 8, (some .int))
abbrev mX10_addRight : sM := (yX10_addRight, cX10_addRight, 7, (some .int))
abbrev mX10_verdictOn : sM := (yX10_verdictOn, cX10_verdictOn, 11, (some .int))
abbrev mX11_init : sM := (yX11_init, cX11_init, 1, none)
abbrev mX11_feed : sM := (yX11_feed, cX11_feed, 6, (some .int))
abbrev mX11_feedNumber : sM := (yX11_feedNumber, cX11_feedNumber, 3, none)
abbrev mX11_cut : sM := (yX11_cut, cX11_cut, 3, (some .int))
abbrev mX11_prefix : sM := (yX11_prefix, cX11_prefix, 3, (some .int))
abbrev mX11_domain : sM := (yX11_domain, cX11_domain, 1, (some .int))
abbrev mX11_tie : sM := (yX11_tie, cX11_tie, 4, (some .int))
abbrev mX11_pace : sM := (yX11_pace, cX11_pace, 4, (some .int))
abbrev mX11_raise : sM := (yX11_raise, cX11_raise, 4, (some .int))
abbrev mX11_cone : sM := (yX11_cone, cX11_cone, 4, (some .int))
abbrev mX11_ring : sM := (yX11_ring, cX11_ring, 3, (some .int))
abbrev mX11_walk : sM := (yX11_walk, cX11_walk, 2, (some .int))
abbrev mX11_letWay : sM := (yX11_letWay, cX11_letWay, 1, (some .int))
abbrev mX11_today : sM := (yX11_today, cX11_today, 3, (some .int))
abbrev mX11_right : sM := (yX11_right, cX11_right, 8, (some .int))
abbrev mX11_strike : sM := (yX11_strike, cX11_strike, 3, (some .int))
abbrev mX11_verdict : sM := (yX11_verdict, cX11_verdict, 5, (some .int))
abbrev mX11_policy : sM := (yX11_policy, cX11_policy, 1, (some .int))
abbrev mX11_fault : sM := (yX11_fault, cX11_fault, 1, (some .int))
abbrev mX11_route : sM := (yX11_route, cX11_route, 5, (some .int))
abbrev mX11_judge : sM := (yX11_judge, cX11_judge, 6, (some .int))
abbrev mX11_hand : sM := (yX11_hand, cX11_hand, 2, (some .int))
abbrev mX11_rowInHand : sM := (yX11_rowInHand, cX11_rowInHand, 2, (some .int))
abbrev mX11_use : sM := (yX11_use, cX11_use, 5, (some .int))
abbrev mX11_rule : sM := (yX11_rule, cX11_rule, 4, (some .int))
abbrev mX11_isRule : sM := (yX11_isRule, cX11_isRule, 4, (some .boolean))
abbrev mX11_announce : sM := (yX11_announce, cX11_announce, 4, (some .int))
abbrev mX11_withdraw : sM := (yX11_withdraw, cX11_withdraw, 3, (some .int))
abbrev mX11_go : sM := (yX11_go, cX11_go, 3, (some .int))
abbrev mX11_until : sM := (yX11_until, cX11_until, 3, (some .int))
abbrev mX11_picked : sM := (yX11_picked, cX11_picked, 4, (some .int))
abbrev mX11_heard : sM := (yX11_heard, cX11_heard, 7, (some .int))
abbrev mX11_why : sM := (yX11_why, cX11_why, 4, (some .int))
abbrev mX11_three : sM := (yX11_three, cX11_three, 4, (some .int))
abbrev mX11_message : sM := (yX11_message, cX11_message, 2, (some .int))
abbrev mX11_part : sM := (yX11_part, cX11_part, 2, (some .int))
abbrev mX11_hear : sM := (yX11_hear, cX11_hear, 3, (some .int))
abbrev mX11_write : sM := (yX11_write, cX11_write, 5, (some .int))
abbrev mX11_octet : sM := (yX11_octet, cX11_octet, 2, (some .int))
abbrev mX11_letter : sM := (yX11_letter, cX11_letter, 3, (some .int))
abbrev mX11_led : sM := (yX11_led, cX11_led, 2, (some .int))
abbrev mX11_demand : sM := (yX11_demand, cX11_demand, 4, (some .int))
abbrev mX11_load : sM := (yX11_load, cX11_load, 4, (some .int))
abbrev mX11_units : sM := (yX11_units, cX11_units, 2, (some .int))
abbrev mX11_least : sM := (yX11_least, cX11_least, 2, (some .int))
abbrev mX11_differ : sM := (yX11_differ, cX11_differ, 3, (some .long))
abbrev mX11_clear : sM := (yX11_clear, cX11_clear, 1, (some .int))
abbrev mX11_wish : sM := (yX11_wish, cX11_wish, 1, (some .int))
abbrev mX11_rests : sM := (yX11_rests, cX11_rests, 1, (some .int))
abbrev mX11_rest : sM := (yX11_rest, cX11_rest, 3, (some .int))
abbrev mX11_tries : sM := (yX11_tries, cX11_tries, 2, (some .int))
abbrev mX11_count : sM := (yX11_count, cX11_count, 2, (some .int))
abbrev mX11_isDomain : sM := (yX11_isDomain, cX11_isDomain, 2, (some .boolean))
abbrev mX11_isPrefix : sM := (yX11_isPrefix, cX11_isPrefix, 2, (some .boolean))
abbrev mX11_isTie : sM := (yX11_isTie, cX11_isTie, 2, (some .boolean))
abbrev mX11_isEither : sM := (yX11_isEither, cX11_isEither, 1, (some .boolean))
abbrev mX12_in : sM := (yX12_in, cX12_in, 3, (some .boolean))
abbrev mX12_feed : sM := (yX12_feed, cX12_feed, 8, (some .int))
abbrev mX12_cut : sM := (yX12_cut, cX12_cut, 3, (some .int))
abbrev mX12_mask : sM := (yX12_mask, cX12_mask, 1, (some .int))
abbrev mX12_holds : sM := (yX12_holds, cX12_holds, 3, (some .boolean))
abbrev mX12_isPrefix : sM := (yX12_isPrefix, cX12_isPrefix, 2, (some .boolean))
abbrev mX12_prefixOf : sM := (yX12_prefixOf, cX12_prefixOf, 4, (some .int))
abbrev mX12_prefix : sM := (yX12_prefix, cX12_prefix, 3, (some .int))
abbrev mX12_isDomain : sM := (yX12_isDomain, cX12_isDomain, 2, (some .boolean))
abbrev mX12_isTie : sM := (yX12_isTie, cX12_isTie, 2, (some .boolean))
abbrev mX12_tieOf : sM := (yX12_tieOf, cX12_tieOf, 4, (some .int))
abbrev mX12_provides : sM := (yX12_provides, cX12_provides, 4, (some .boolean))
abbrev mX12_domain : sM := (yX12_domain, cX12_domain, 1, (some .int))
abbrev mX12_tie : sM := (yX12_tie, cX12_tie, 5, (some .int))
abbrev mX12_pace : sM := (yX12_pace, cX12_pace, 4, (some .int))
abbrev mX12_cone : sM := (yX12_cone, cX12_cone, 6, (some .int))
abbrev mX12_ring : sM := (yX12_ring, cX12_ring, 8, (some .int))
abbrev mX12_walk : sM := (yX12_walk, cX12_walk, 2, (some .int))
abbrev mX12_letWay : sM := (yX12_letWay, cX12_letWay, 5, (some .int))
abbrev mX12_today : sM := (yX12_today, cX12_today, 3, (some .int))
abbrev mX12_right : sM := (yX12_right, cX12_right, 7, (some .int))
abbrev mX12_strike : sM := (yX12_strike, cX12_strike, 3, (some .int))
abbrev mX12_judged : sM := (yX12_judged, cX12_judged, 5, (some .int))
abbrev mX12_judgedAnew : sM := (yX12_judgedAnew, cX12_judgedAnew, 9, (some .int))
abbrev mX12_verdict : sM := (yX12_verdict, cX12_verdict, 5, (some .int))
abbrev mX12_copy : sM := (yX12_copy, cX12_copy, 4, none)
abbrev mX12_nothing : sM := (yX12_nothing, cX12_nothing, 2, none)
abbrev mX12_isThere : sM := (yX12_isThere, cX12_isThere, 2, (some .boolean))
abbrev mX12_same : sM := (yX12_same, cX12_same, 5, (some .boolean))
abbrev mX12_marked : sM := (yX12_marked, cX12_marked, 5, (some .boolean))
abbrev mX12_addMark : sM := (yX12_addMark, cX12_addMark, 5, none)
abbrev mX12_dropMark : sM := (yX12_dropMark, cX12_dropMark, 6, none)
abbrev mX12_front : sM := (yX12_front, cX12_front, 5, (some .boolean))
abbrev mX12_isIn : sM := (yX12_isIn, cX12_isIn, 5, (some .boolean))
abbrev mX12_wordOf : sM := (yX12_wordOf, cX12_wordOf, 2, (some .int))
abbrev mX12_wrong : sM := (yX12_wrong, cX12_wrong, 2, none)
abbrev mX12_byteAt : sM := (yX12_byteAt, cX12_byteAt, 2, (some .int))
abbrev mX12_next : sM := (yX12_next, cX12_next, 6, none)
abbrev mX12_isSign : sM := (yX12_isSign, cX12_isSign, 2, (some .boolean))
abbrev mX12_isWord : sM := (yX12_isWord, cX12_isWord, 2, (some .boolean))
abbrev mX12_sign : sM := (yX12_sign, cX12_sign, 2, none)
abbrev mX12_within : sM := (yX12_within, cX12_within, 4, (some .int))
abbrev mX12_openLevel : sM := (yX12_openLevel, cX12_openLevel, 1, none)
abbrev mX12_freshRow : sM := (yX12_freshRow, cX12_freshRow, 1, none)
abbrev mX12_endRow : sM := (yX12_endRow, cX12_endRow, 2, none)
abbrev mX12_follows : sM := (yX12_follows, cX12_follows, 6, none)
abbrev mX12_piece : sM := (yX12_piece, cX12_piece, 8, none)
abbrev mX12_wayTest : sM := (yX12_wayTest, cX12_wayTest, 3, none)
abbrev mX12_addressRead : sM := (yX12_addressRead, cX12_addressRead, 3, (some .int))
abbrev mX12_test : sM := (yX12_test, cX12_test, 4, none)
abbrev mX12_actRead : sM := (yX12_actRead, cX12_actRead, 4, none)
abbrev mX12_rowRead : sM := (yX12_rowRead, cX12_rowRead, 3, none)
abbrev mX12_policy : sM := (yX12_policy, cX12_policy, 1, (some .int))
abbrev mX12_fault : sM := (yX12_fault, cX12_fault, 1, (some .int))
abbrev mX12_waysMatch : sM := (yX12_waysMatch, cX12_waysMatch, 11, (some .boolean))
abbrev mX12_tieWord : sM := (yX12_tieWord, cX12_tieWord, 4, (some .int))
abbrev mX12_related : sM := (yX12_related, cX12_related, 4, (some .boolean))
abbrev mX12_isSo : sM := (yX12_isSo, cX12_isSo, 10, (some .boolean))
abbrev mX12_through : sM := (yX12_through, cX12_through, 14, (some .boolean))
abbrev mX12_route : sM := (yX12_route, cX12_route, 6, (some .int))
abbrev mX12_judge : sM := (yX12_judge, cX12_judge, 4, (some .int))
abbrev mX12_hand : sM := (yX12_hand, cX12_hand, 2, (some .int))
abbrev mX12_init : sM := (yX12_init, cX12_init, 3, none)
abbrev mX12_slot : sM := (yX12_slot, cX12_slot, 3, (some .int))
abbrev mX12_sideOf : sM := (yX12_sideOf, cX12_sideOf, 3, (some .int))
abbrev mX12_isAt : sM := (yX12_isAt, cX12_isAt, 3, (some .boolean))
abbrev mX12_partnerOf : sM := (yX12_partnerOf, cX12_partnerOf, 3, (some .int))
abbrev mX12_unlike : sM := (yX12_unlike, cX12_unlike, 13, (some .int))
abbrev mX12_beats : sM := (yX12_beats, cX12_beats, 6, (some .boolean))
abbrev mX12_candidate : sM := (yX12_candidate, cX12_candidate, 6, (some .int))
abbrev mX12_candidates : sM := (yX12_candidates, cX12_candidates, 4, none)
abbrev mX12_best : sM := (yX12_best, cX12_best, 5, (some .int))
abbrev mX12_isBelow : sM := (yX12_isBelow, cX12_isBelow, 2, (some .boolean))
abbrev mX12_pick : sM := (yX12_pick, cX12_pick, 11, (some .int))
abbrev mX12_look : sM := (yX12_look, cX12_look, 6, none)
abbrev mX12_say : sM := (yX12_say, cX12_say, 8, none)
abbrev mX12_lookAll : sM := (yX12_lookAll, cX12_lookAll, 3, none)
abbrev mX12_sayAll : sM := (yX12_sayAll, cX12_sayAll, 4, none)
abbrev mX12_rethink : sM := (yX12_rethink, cX12_rethink, 3, none)
abbrev mX12_raise : sM := (yX12_raise, cX12_raise, 5, (some .int))
abbrev mX12_use : sM := (yX12_use, cX12_use, 6, (some .int))
abbrev mX12_rule : sM := (yX12_rule, cX12_rule, 8, (some .int))
abbrev mX12_announce : sM := (yX12_announce, cX12_announce, 5, (some .int))
abbrev mX12_withdraw : sM := (yX12_withdraw, cX12_withdraw, 3, (some .int))
abbrev mX12_nextEvent : sM := (yX12_nextEvent, cX12_nextEvent, 7, (some .int))
abbrev mX12_eventAt : sM := (yX12_eventAt, cX12_eventAt, 2, (some .int))
abbrev mX12_doEvent : sM := (yX12_doEvent, cX12_doEvent, 7, none)
abbrev mX12_go : sM := (yX12_go, cX12_go, 3, (some .int))
abbrev mX12_until : sM := (yX12_until, cX12_until, 4, (some .int))
abbrev mX12_picked : sM := (yX12_picked, cX12_picked, 4, (some .int))
abbrev mX12_heard : sM := (yX12_heard, cX12_heard, 7, (some .int))
abbrev mX12_why : sM := (yX12_why, cX12_why, 9, (some .int))
abbrev mX12_three : sM := (yX12_three, cX12_three, 7, (some .int))
abbrev mX12_fails : sM := (yX12_fails, cX12_fails, 3, none)
abbrev mX12_number : sM := (yX12_number, cX12_number, 5, (some .int))
abbrev mX12_partOf : sM := (yX12_partOf, cX12_partOf, 8, (some .boolean))
abbrev mX12_originRight : sM := (yX12_originRight, cX12_originRight, 3, (some .boolean))
abbrev mX12_wayRight : sM := (yX12_wayRight, cX12_wayRight, 11, (some .boolean))
abbrev mX12_costRight : sM := (yX12_costRight, cX12_costRight, 4, (some .boolean))
abbrev mX12_marksRight : sM := (yX12_marksRight, cX12_marksRight, 5, (some .boolean))
abbrev mX12_attributes : sM := (yX12_attributes, cX12_attributes, 12, none)
abbrev mX12_message : sM := (yX12_message, cX12_message, 5, (some .int))
abbrev mX12_part : sM := (yX12_part, cX12_part, 5, (some .int))
abbrev mX12_hear : sM := (yX12_hear, cX12_hear, 7, (some .int))
abbrev mX12_octet1 : sM := (yX12_octet1, cX12_octet1, 2, none)
abbrev mX12_octet4 : sM := (yX12_octet4, cX12_octet4, 3, none)
abbrev mX12_prefixOut : sM := (yX12_prefixOut, cX12_prefixOut, 3, none)
abbrev mX12_write : sM := (yX12_write, cX12_write, 10, (some .int))
abbrev mX12_octet : sM := (yX12_octet, cX12_octet, 2, (some .int))
abbrev mX12_sends : sM := (yX12_sends, cX12_sends, 5, (some .int))
abbrev mX12_goes : sM := (yX12_goes, cX12_goes, 6, (some .int))
abbrev mX12_letter : sM := (yX12_letter, cX12_letter, 5, (some .int))
abbrev mX12_led : sM := (yX12_led, cX12_led, 2, (some .int))
abbrev mX12_demand : sM := (yX12_demand, cX12_demand, 4, (some .int))
abbrev mX12_load : sM := (yX12_load, cX12_load, 6, (some .int))
abbrev mX12_units : sM := (yX12_units, cX12_units, 4, (some .int))
abbrev mX12_nodeOf : sM := (yX12_nodeOf, cX12_nodeOf, 4, (some .int))
abbrev mX12_aim : sM := (yX12_aim, cX12_aim, 1, (some .int))
abbrev mX12_costOf : sM := (yX12_costOf, cX12_costOf, 6, (some .int))
abbrev mX12_least : sM := (yX12_least, cX12_least, 9, (some .int))
abbrev mX12_differ : sM := (yX12_differ, cX12_differ, 10, (some .long))
abbrev mX12_clear : sM := (yX12_clear, cX12_clear, 3, (some .int))
abbrev mX12_isWished : sM := (yX12_isWished, cX12_isWished, 5, (some .boolean))
abbrev mX12_wish : sM := (yX12_wish, cX12_wish, 5, (some .int))
abbrev mX12_states : sM := (yX12_states, cX12_states, 3, (some .int))
abbrev mX12_open : sM := (yX12_open, cX12_open, 3, none)
abbrev mX12_isOffered : sM := (yX12_isOffered, cX12_isOffered, 6, (some .boolean))
abbrev mX12_acted : sM := (yX12_acted, cX12_acted, 3, (some .int))
abbrev mX12_isRest : sM := (yX12_isRest, cX12_isRest, 4, (some .boolean))
abbrev mX12_rests : sM := (yX12_rests, cX12_rests, 4, (some .int))
abbrev mX12_rest : sM := (yX12_rest, cX12_rest, 6, (some .int))
abbrev mX12_tries : sM := (yX12_tries, cX12_tries, 12, (some .int))
abbrev mX12_count : sM := (yX12_count, cX12_count, 4, (some .int))
end
section
theorem wI_DomainHouseLaw : Cond.initialized "DomainHouseLaw" ∈ lw_ok := lw_i1 0 rfl rfl
theorem wI_X11 : Cond.initialized RX11 ∈ lw_ok := lw_i1 1 rfl rfl
theorem wI_X7 : Cond.initialized RX7 ∈ lw_ok := lw_i1 2 rfl rfl
theorem wI_X10 : Cond.initialized RX10 ∈ lw_ok := lw_i1 3 rfl rfl
theorem wI_X1 : Cond.initialized RX1 ∈ lw_ok := lw_i1 4 rfl rfl
theorem wI_X6 : Cond.initialized RX6 ∈ lw_ok := lw_i1 5 rfl rfl
theorem wI_X8 : Cond.initialized RX8 ∈ lw_ok := lw_i1 6 rfl rfl
theorem wI_Arrays : Cond.initialized "java/util/Arrays" ∈ lw_ok := lw_i1 7 rfl rfl
theorem wI_X3 : Cond.initialized RX3 ∈ lw_ok := lw_i1 8 rfl rfl
theorem wI_X2 : Cond.initialized RX2 ∈ lw_ok := lw_i1 9 rfl rfl
theorem wI_X4 : Cond.initialized RX4 ∈ lw_ok := lw_i1 10 rfl rfl
theorem wI_X12 : Cond.initialized RX12 ∈ lw_ok := lw_i1 11 rfl rfl
theorem wI_X0 : Cond.initialized RX0 ∈ lw_ok := lw_i1 12 rfl rfl
theorem wI_X9 : Cond.initialized RX9 ∈ lw_ok := lw_i1 13 rfl rfl
theorem wI_System : Cond.initialized "java/lang/System" ∈ lw_ok := lw_i1 14 rfl rfl
theorem wI_Integer : Cond.initialized "java/lang/Integer" ∈ lw_ok := lw_i1 15 rfl rfl
theorem wI_Math : Cond.initialized "java/lang/Math" ∈ lw_ok := lw_i1 16 rfl rfl
theorem wI_String : Cond.initialized "java/lang/String" ∈ lw_ok := lw_i1 17 rfl rfl
theorem wI_StringLatin1 : Cond.initialized "java/lang/StringLatin1" ∈ lw_ok := lw_i1 18 rfl rfl
theorem wI_Preconditions : Cond.initialized "jdk/internal/util/Preconditions" ∈ lw_ok := lw_i1 19 rfl rfl
theorem wI_StringUTF16 : Cond.initialized "java/lang/StringUTF16" ∈ lw_ok := lw_i1 20 rfl rfl
theorem wI_X5 : Cond.initialized RX5 ∈ lw_ok := lw_i1 21 rfl rfl
theorem wC_DomainHouseLaw_7 : Cond.classLink "DomainHouseLaw" 7 RX11 ∈ lw_ok := lw_i1 22 rfl rfl
theorem wN_X11 : Cond.instantiable RX11 12 ∈ lw_ok := lw_i1 23 rfl rfl
theorem wM_DomainHouseLaw_9 : Cond.methodLink "DomainHouseLaw" 9 yX11_init ∈ lw_ok := lw_i1 24 rfl rfl
theorem wV_X11_init : Cond.instanceMethod yX11_init ∈ lw_ok := lw_i1 25 rfl rfl
theorem wK_X11_init : Cond.code yX11_init cX11_init 1 none ∈ lw_ok := lw_i1 26 rfl rfl
theorem wM_X11_1 : Cond.methodLink RX11 1 objectInit ∈ lw_ok := lw_i1 27 rfl rfl
theorem wV_obj : Cond.instanceMethod objectInit ∈ lw_ok := lw_i1 28 rfl rfl
theorem wK_obj : Cond.code objectInit ⟨#[0xb1]⟩ 1 none ∈ lw_ok := lw_i1 29 rfl rfl
theorem wC_X11_16 : Cond.classLink RX11 16 RX7 ∈ lw_ok := lw_i1 30 rfl rfl
theorem wN_X7 : Cond.instantiable RX7 12 ∈ lw_ok := lw_i1 31 rfl rfl
theorem wM_X11_18 : Cond.methodLink RX11 18 yX7_init ∈ lw_ok := lw_i1 32 rfl rfl
theorem wV_X7_init : Cond.instanceMethod yX7_init ∈ lw_ok := lw_i1 33 rfl rfl
theorem wK_X7_init : Cond.code yX7_init cX7_init 1 none ∈ lw_ok := lw_i1 34 rfl rfl
theorem wM_X7_3 : Cond.methodLink RX7 3 objectInit ∈ lw_ok := lw_i1 35 rfl rfl
theorem wF_X7_9 : Cond.fieldLink RX7 9 RX7 "way" "[I" ∈ lw_ok := lw_i1 36 rfl rfl
theorem wF_X5_35 : Cond.fieldLink RX5 35 RX7 "way" "[I" ∈ lw_ok := lw_i1 37 rfl rfl
theorem wF_X1_114 : Cond.fieldLink RX1 114 RX7 "way" "[I" ∈ lw_ok := lw_i1 38 rfl rfl
theorem wF_X3_140 : Cond.fieldLink RX3 140 RX7 "way" "[I" ∈ lw_ok := lw_i1 39 rfl rfl
theorem wF_X11_236 : Cond.fieldLink RX11 236 RX7 "way" "[I" ∈ lw_ok := lw_i1 40 rfl rfl
theorem wF_X8_251 : Cond.fieldLink RX8 251 RX7 "way" "[I" ∈ lw_ok := lw_i1 41 rfl rfl
theorem wF_X7_15 : Cond.fieldLink RX7 15 RX7 "marks" "[I" ∈ lw_ok := lw_i1 42 rfl rfl
theorem wF_X11_268 : Cond.fieldLink RX11 268 RX7 "marks" "[I" ∈ lw_ok := lw_i1 43 rfl rfl
theorem wF_X3_182 : Cond.fieldLink RX3 182 RX7 "marks" "[I" ∈ lw_ok := lw_i1 44 rfl rfl
theorem wF_X7_22 : Cond.fieldLink RX7 22 RX7 "there" "Z" ∈ lw_ok := lw_i1 45 rfl rfl
theorem wF_X8_203 : Cond.fieldLink RX8 203 RX7 "there" "Z" ∈ lw_ok := lw_i1 46 rfl rfl
theorem wF_X11_246 : Cond.fieldLink RX11 246 RX7 "there" "Z" ∈ lw_ok := lw_i1 47 rfl rfl
theorem wF_X3_166 : Cond.fieldLink RX3 166 RX7 "there" "Z" ∈ lw_ok := lw_i1 48 rfl rfl
theorem wF_X7_26 : Cond.fieldLink RX7 26 RX7 "prefix" "I" ∈ lw_ok := lw_i1 49 rfl rfl
theorem wF_X1_77 : Cond.fieldLink RX1 77 RX7 "prefix" "I" ∈ lw_ok := lw_i1 50 rfl rfl
theorem wF_X8_133 : Cond.fieldLink RX8 133 RX7 "prefix" "I" ∈ lw_ok := lw_i1 51 rfl rfl
theorem wF_X11_256 : Cond.fieldLink RX11 256 RX7 "prefix" "I" ∈ lw_ok := lw_i1 52 rfl rfl
theorem wF_X7_29 : Cond.fieldLink RX7 29 RX7 "wish" "I" ∈ lw_ok := lw_i1 53 rfl rfl
theorem wF_X0_48 : Cond.fieldLink RX0 48 RX7 "wish" "I" ∈ lw_ok := lw_i1 54 rfl rfl
theorem wF_X1_105 : Cond.fieldLink RX1 105 RX7 "wish" "I" ∈ lw_ok := lw_i1 55 rfl rfl
theorem wF_X11_230 : Cond.fieldLink RX11 230 RX7 "wish" "I" ∈ lw_ok := lw_i1 56 rfl rfl
theorem wF_X8_260 : Cond.fieldLink RX8 260 RX7 "wish" "I" ∈ lw_ok := lw_i1 57 rfl rfl
theorem wF_X7_32 : Cond.fieldLink RX7 32 RX7 "origin" "I" ∈ lw_ok := lw_i1 58 rfl rfl
theorem wF_X0_60 : Cond.fieldLink RX0 60 RX7 "origin" "I" ∈ lw_ok := lw_i1 59 rfl rfl
theorem wF_X1_111 : Cond.fieldLink RX1 111 RX7 "origin" "I" ∈ lw_ok := lw_i1 60 rfl rfl
theorem wF_X3_127 : Cond.fieldLink RX3 127 RX7 "origin" "I" ∈ lw_ok := lw_i1 61 rfl rfl
theorem wF_X11_259 : Cond.fieldLink RX11 259 RX7 "origin" "I" ∈ lw_ok := lw_i1 62 rfl rfl
theorem wF_X7_35 : Cond.fieldLink RX7 35 RX7 "cost" "I" ∈ lw_ok := lw_i1 63 rfl rfl
theorem wF_X0_67 : Cond.fieldLink RX0 67 RX7 "cost" "I" ∈ lw_ok := lw_i1 64 rfl rfl
theorem wF_X1_108 : Cond.fieldLink RX1 108 RX7 "cost" "I" ∈ lw_ok := lw_i1 65 rfl rfl
theorem wF_X3_134 : Cond.fieldLink RX3 134 RX7 "cost" "I" ∈ lw_ok := lw_i1 66 rfl rfl
theorem wF_X11_233 : Cond.fieldLink RX11 233 RX7 "cost" "I" ∈ lw_ok := lw_i1 67 rfl rfl
theorem wF_X5_30 : Cond.fieldLink RX5 30 RX7 "wayLength" "I" ∈ lw_ok := lw_i1 68 rfl rfl
theorem wF_X7_38 : Cond.fieldLink RX7 38 RX7 "wayLength" "I" ∈ lw_ok := lw_i1 69 rfl rfl
theorem wF_X0_57 : Cond.fieldLink RX0 57 RX7 "wayLength" "I" ∈ lw_ok := lw_i1 70 rfl rfl
theorem wF_X1_96 : Cond.fieldLink RX1 96 RX7 "wayLength" "I" ∈ lw_ok := lw_i1 71 rfl rfl
theorem wF_X3_147 : Cond.fieldLink RX3 147 RX7 "wayLength" "I" ∈ lw_ok := lw_i1 72 rfl rfl
theorem wF_X11_245 : Cond.fieldLink RX11 245 RX7 "wayLength" "I" ∈ lw_ok := lw_i1 73 rfl rfl
theorem wF_X8_246 : Cond.fieldLink RX8 246 RX7 "wayLength" "I" ∈ lw_ok := lw_i1 74 rfl rfl
theorem wF_X7_41 : Cond.fieldLink RX7 41 RX7 "markCount" "I" ∈ lw_ok := lw_i1 75 rfl rfl
theorem wF_X3_55 : Cond.fieldLink RX3 55 RX7 "markCount" "I" ∈ lw_ok := lw_i1 76 rfl rfl
theorem wF_X11_262 : Cond.fieldLink RX11 262 RX7 "markCount" "I" ∈ lw_ok := lw_i1 77 rfl rfl
theorem wF_X7_18 : Cond.fieldLink RX7 18 RX7 "when" "I" ∈ lw_ok := lw_i1 78 rfl rfl
theorem wF_X0_70 : Cond.fieldLink RX0 70 RX7 "when" "I" ∈ lw_ok := lw_i1 79 rfl rfl
theorem wF_X8_110 : Cond.fieldLink RX8 110 RX7 "when" "I" ∈ lw_ok := lw_i1 80 rfl rfl
theorem wF_X11_330 : Cond.fieldLink RX11 330 RX7 "when" "I" ∈ lw_ok := lw_i1 81 rfl rfl
theorem wF_X8_188 : Cond.fieldLink RX8 188 RX7 "tie" "I" ∈ lw_ok := lw_i1 82 rfl rfl
theorem wF_X0_45 : Cond.fieldLink RX0 45 RX7 "partner" "I" ∈ lw_ok := lw_i1 83 rfl rfl
theorem wF_X8_210 : Cond.fieldLink RX8 210 RX7 "partner" "I" ∈ lw_ok := lw_i1 84 rfl rfl
theorem wA_int : Cond.arrayClass (Jvm.ClassFile.FieldType.int) ∈ lw_ok := lw_i1 110 rfl rfl
theorem wC_X11_23 : Cond.classLink RX11 23 RX10 ∈ lw_ok := lw_i1 111 rfl rfl
theorem wN_X10 : Cond.instantiable RX10 19 ∈ lw_ok := lw_i1 112 rfl rfl
theorem wM_X11_25 : Cond.methodLink RX11 25 yX10_init ∈ lw_ok := lw_i1 113 rfl rfl
theorem wV_X10_init : Cond.instanceMethod yX10_init ∈ lw_ok := lw_i1 114 rfl rfl
theorem wK_X10_init : Cond.code yX10_init cX10_init 1 none ∈ lw_ok := lw_i1 115 rfl rfl
theorem wM_X10_3 : Cond.methodLink RX10 3 objectInit ∈ lw_ok := lw_i1 116 rfl rfl
theorem wC_X10_21 : Cond.classLink RX10 21 RX0 ∈ lw_ok := lw_i1 117 rfl rfl
theorem wC_X10_27 : Cond.classLink RX10 27 RX9 ∈ lw_ok := lw_i1 119 rfl rfl
theorem wF_X10_9 : Cond.fieldLink RX10 9 RX10 "address" "[I" ∈ lw_ok := lw_i1 121 rfl rfl
theorem wF_X2_49 : Cond.fieldLink RX2 49 RX10 "address" "[I" ∈ lw_ok := lw_i1 122 rfl rfl
theorem wF_X1_82 : Cond.fieldLink RX1 82 RX10 "address" "[I" ∈ lw_ok := lw_i1 123 rfl rfl
theorem wF_X11_351 : Cond.fieldLink RX11 351 RX10 "address" "[I" ∈ lw_ok := lw_i1 124 rfl rfl
theorem wF_X10_15 : Cond.fieldLink RX10 15 RX10 "length" "[I" ∈ lw_ok := lw_i1 125 rfl rfl
theorem wF_X2_57 : Cond.fieldLink RX2 57 RX10 "length" "[I" ∈ lw_ok := lw_i1 126 rfl rfl
theorem wF_X1_72 : Cond.fieldLink RX1 72 RX10 "length" "[I" ∈ lw_ok := lw_i1 127 rfl rfl
theorem wF_X11_185 : Cond.fieldLink RX11 185 RX10 "length" "[I" ∈ lw_ok := lw_i1 128 rfl rfl
theorem wF_X10_18 : Cond.fieldLink RX10 18 RX10 "mask" "[I" ∈ lw_ok := lw_i1 129 rfl rfl
theorem wF_X2_46 : Cond.fieldLink RX2 46 RX10 "mask" "[I" ∈ lw_ok := lw_i1 130 rfl rfl
theorem wF_X10_23 : Cond.fieldLink RX10 23 RX10 "domain" "[LDomainHouse$Domain;" ∈ lw_ok := lw_i1 131 rfl rfl
theorem wF_X2_35 : Cond.fieldLink RX2 35 RX10 "domain" "[LDomainHouse$Domain;" ∈ lw_ok := lw_i1 132 rfl rfl
theorem wF_X8_162 : Cond.fieldLink RX8 162 RX10 "domain" "[LDomainHouse$Domain;" ∈ lw_ok := lw_i1 133 rfl rfl
theorem wF_X11_283 : Cond.fieldLink RX11 283 RX10 "domain" "[LDomainHouse$Domain;" ∈ lw_ok := lw_i1 134 rfl rfl
theorem wF_X10_29 : Cond.fieldLink RX10 29 RX10 "tie" "[LDomainHouse$Tie;" ∈ lw_ok := lw_i1 135 rfl rfl
theorem wF_X2_64 : Cond.fieldLink RX2 64 RX10 "tie" "[LDomainHouse$Tie;" ∈ lw_ok := lw_i1 136 rfl rfl
theorem wF_X8_76 : Cond.fieldLink RX8 76 RX10 "tie" "[LDomainHouse$Tie;" ∈ lw_ok := lw_i1 137 rfl rfl
theorem wF_X11_122 : Cond.fieldLink RX11 122 RX10 "tie" "[LDomainHouse$Tie;" ∈ lw_ok := lw_i1 138 rfl rfl
theorem wF_X10_33 : Cond.fieldLink RX10 33 RX10 "ringRow" "[I" ∈ lw_ok := lw_i1 139 rfl rfl
theorem wF_X11_166 : Cond.fieldLink RX11 166 RX10 "ringRow" "[I" ∈ lw_ok := lw_i1 140 rfl rfl
theorem wF_X10_36 : Cond.fieldLink RX10 36 RX10 "stepsBack" "[I" ∈ lw_ok := lw_i1 141 rfl rfl
theorem wF_X10_39 : Cond.fieldLink RX10 39 RX10 "rightPrefix" "[I" ∈ lw_ok := lw_i1 142 rfl rfl
theorem wF_X10_42 : Cond.fieldLink RX10 42 RX10 "rightMost" "[I" ∈ lw_ok := lw_i1 143 rfl rfl
theorem wF_X10_45 : Cond.fieldLink RX10 45 RX10 "rightDomain" "[I" ∈ lw_ok := lw_i1 144 rfl rfl
theorem wF_X10_48 : Cond.fieldLink RX10 48 RX10 "rightFrom" "[I" ∈ lw_ok := lw_i1 145 rfl rfl
theorem wF_X10_51 : Cond.fieldLink RX10 51 RX10 "rightTo" "[I" ∈ lw_ok := lw_i1 146 rfl rfl
theorem wF_X10_54 : Cond.fieldLink RX10 54 RX10 "rightKnown" "[I" ∈ lw_ok := lw_i1 147 rfl rfl
theorem wF_X11_195 : Cond.fieldLink RX11 195 RX10 "rightKnown" "[I" ∈ lw_ok := lw_i1 148 rfl rfl
theorem wF_X10_57 : Cond.fieldLink RX10 57 RX10 "rightStruck" "[I" ∈ lw_ok := lw_i1 149 rfl rfl
theorem wF_X11_198 : Cond.fieldLink RX11 198 RX10 "rightStruck" "[I" ∈ lw_ok := lw_i1 150 rfl rfl
theorem wF_X2_42 : Cond.fieldLink RX2 42 RX10 "prefixes" "I" ∈ lw_ok := lw_i1 151 rfl rfl
theorem wF_X10_60 : Cond.fieldLink RX10 60 RX10 "prefixes" "I" ∈ lw_ok := lw_i1 152 rfl rfl
theorem wF_X11_92 : Cond.fieldLink RX11 92 RX10 "prefixes" "I" ∈ lw_ok := lw_i1 153 rfl rfl
theorem wF_X8_150 : Cond.fieldLink RX8 150 RX10 "prefixes" "I" ∈ lw_ok := lw_i1 154 rfl rfl
theorem wF_X10_68 : Cond.fieldLink RX10 68 RX10 "domains" "I" ∈ lw_ok := lw_i1 155 rfl rfl
theorem wF_X11_98 : Cond.fieldLink RX11 98 RX10 "domains" "I" ∈ lw_ok := lw_i1 156 rfl rfl
theorem wF_X8_147 : Cond.fieldLink RX8 147 RX10 "domains" "I" ∈ lw_ok := lw_i1 157 rfl rfl
theorem wF_X10_72 : Cond.fieldLink RX10 72 RX10 "ties" "I" ∈ lw_ok := lw_i1 158 rfl rfl
theorem wF_X11_112 : Cond.fieldLink RX11 112 RX10 "ties" "I" ∈ lw_ok := lw_i1 159 rfl rfl
theorem wF_X8_153 : Cond.fieldLink RX8 153 RX10 "ties" "I" ∈ lw_ok := lw_i1 160 rfl rfl
theorem wF_X10_118 : Cond.fieldLink RX10 118 RX10 "rights" "I" ∈ lw_ok := lw_i1 161 rfl rfl
theorem wF_X11_188 : Cond.fieldLink RX11 188 RX10 "rights" "I" ∈ lw_ok := lw_i1 162 rfl rfl
theorem wF_X1_117 : Cond.fieldLink RX1 117 RX10 "today" "I" ∈ lw_ok := lw_i1 163 rfl rfl
theorem wF_X11_176 : Cond.fieldLink RX11 176 RX10 "today" "I" ∈ lw_ok := lw_i1 164 rfl rfl
theorem wC_X11_30 : Cond.classLink RX11 30 RX1 ∈ lw_ok := lw_i1 204 rfl rfl
theorem wN_X1 : Cond.instantiable RX1 9 ∈ lw_ok := lw_i1 205 rfl rfl
theorem wM_X11_32 : Cond.methodLink RX11 32 yX1_init ∈ lw_ok := lw_i1 206 rfl rfl
theorem wV_X1_init : Cond.instanceMethod yX1_init ∈ lw_ok := lw_i1 207 rfl rfl
theorem wK_X1_init : Cond.code yX1_init cX1_init 2 none ∈ lw_ok := lw_i1 208 rfl rfl
theorem wM_X1_3 : Cond.methodLink RX1 3 objectInit ∈ lw_ok := lw_i1 209 rfl rfl
theorem wC_X1_15 : Cond.classLink RX1 15 RX5 ∈ lw_ok := lw_i1 210 rfl rfl
theorem wF_X1_9 : Cond.fieldLink RX1 9 RX1 "world" "LDomainHouse$World;" ∈ lw_ok := lw_i1 212 rfl rfl
theorem wF_X1_17 : Cond.fieldLink RX1 17 RX1 "texts" "[LDomainHouse$Policy;" ∈ lw_ok := lw_i1 213 rfl rfl
theorem wF_X1_25 : Cond.fieldLink RX1 25 RX1 "route" "LDomainHouse$Route;" ∈ lw_ok := lw_i1 214 rfl rfl
theorem wF_X1_35 : Cond.fieldLink RX1 35 RX1 "domain" "I" ∈ lw_ok := lw_i1 215 rfl rfl
theorem wF_X1_38 : Cond.fieldLink RX1 38 RX1 "partner" "I" ∈ lw_ok := lw_i1 216 rfl rfl
theorem wF_X1_44 : Cond.fieldLink RX1 44 RX1 "role" "I" ∈ lw_ok := lw_i1 217 rfl rfl
theorem wF_X1_47 : Cond.fieldLink RX1 47 RX1 "acts" "I" ∈ lw_ok := lw_i1 218 rfl rfl
theorem wF_X1_50 : Cond.fieldLink RX1 50 RX1 "ending" "I" ∈ lw_ok := lw_i1 219 rfl rfl
theorem wF_X1_21 : Cond.fieldLink RX1 21 RX1 "policies" "I" ∈ lw_ok := lw_i1 220 rfl rfl
theorem wF_X11_205 : Cond.fieldLink RX11 205 RX1 "policies" "I" ∈ lw_ok := lw_i1 221 rfl rfl
theorem wC_X11_39 : Cond.classLink RX11 39 RX6 ∈ lw_ok := lw_i2 1 rfl rfl
theorem wN_X6 : Cond.instantiable RX6 20 ∈ lw_ok := lw_i2 2 rfl rfl
theorem wM_X11_41 : Cond.methodLink RX11 41 yX6_init ∈ lw_ok := lw_i2 3 rfl rfl
theorem wV_X6_init : Cond.instanceMethod yX6_init ∈ lw_ok := lw_i2 4 rfl rfl
theorem wK_X6_init : Cond.code yX6_init cX6_init 1 none ∈ lw_ok := lw_i2 5 rfl rfl
theorem wM_X6_3 : Cond.methodLink RX6 3 objectInit ∈ lw_ok := lw_i2 6 rfl rfl
theorem wF_X6_9 : Cond.fieldLink RX6 9 RX6 "token" "[I" ∈ lw_ok := lw_i2 7 rfl rfl
theorem wF_X6_15 : Cond.fieldLink RX6 15 RX6 "value" "[I" ∈ lw_ok := lw_i2 8 rfl rfl
theorem wF_X6_18 : Cond.fieldLink RX6 18 RX6 "place" "[I" ∈ lw_ok := lw_i2 9 rfl rfl
theorem wF_X6_21 : Cond.fieldLink RX6 21 RX6 "code" "[I" ∈ lw_ok := lw_i2 10 rfl rfl
theorem wF_X6_24 : Cond.fieldLink RX6 24 RX6 "places" "[I" ∈ lw_ok := lw_i2 11 rfl rfl
theorem wF_X6_27 : Cond.fieldLink RX6 27 RX6 "next" "[J" ∈ lw_ok := lw_i2 12 rfl rfl
theorem wF_X6_31 : Cond.fieldLink RX6 31 RX6 "first" "[J" ∈ lw_ok := lw_i2 13 rfl rfl
theorem wF_X6_34 : Cond.fieldLink RX6 34 RX6 "last" "[J" ∈ lw_ok := lw_i2 14 rfl rfl
theorem wF_X6_83 : Cond.fieldLink RX6 83 RX6 "end" "I" ∈ lw_ok := lw_i2 15 rfl rfl
theorem wF_X6_63 : Cond.fieldLink RX6 63 RX6 "at" "I" ∈ lw_ok := lw_i2 16 rfl rfl
theorem wF_X6_44 : Cond.fieldLink RX6 44 RX6 "rows" "I" ∈ lw_ok := lw_i2 17 rfl rfl
theorem wF_X6_47 : Cond.fieldLink RX6 47 RX6 "codeSize" "I" ∈ lw_ok := lw_i2 18 rfl rfl
theorem wF_X6_50 : Cond.fieldLink RX6 50 RX6 "placeCount" "I" ∈ lw_ok := lw_i2 19 rfl rfl
theorem wF_X6_53 : Cond.fieldLink RX6 53 RX6 "ways" "I" ∈ lw_ok := lw_i2 20 rfl rfl
theorem wF_X6_56 : Cond.fieldLink RX6 56 RX6 "callable" "I" ∈ lw_ok := lw_i2 21 rfl rfl
theorem wF_X6_186 : Cond.fieldLink RX6 186 RX6 "partEmpty" "Z" ∈ lw_ok := lw_i2 22 rfl rfl
theorem wF_X6_179 : Cond.fieldLink RX6 179 RX6 "partFirst" "J" ∈ lw_ok := lw_i2 23 rfl rfl
theorem wF_X6_183 : Cond.fieldLink RX6 183 RX6 "partLast" "J" ∈ lw_ok := lw_i2 24 rfl rfl
theorem wF_X6_37 : Cond.fieldLink RX6 37 RX6 "fault" "I" ∈ lw_ok := lw_i2 25 rfl rfl
theorem wF_X11_212 : Cond.fieldLink RX11 212 RX6 "fault" "I" ∈ lw_ok := lw_i2 26 rfl rfl
theorem wF_X6_41 : Cond.fieldLink RX6 41 RX6 "faultPlace" "I" ∈ lw_ok := lw_i2 27 rfl rfl
theorem wF_X11_215 : Cond.fieldLink RX11 215 RX6 "faultPlace" "I" ∈ lw_ok := lw_i2 28 rfl rfl
theorem wA_long : Cond.arrayClass (Jvm.ClassFile.FieldType.long) ∈ lw_ok := lw_i2 70 rfl rfl
theorem wC_X11_46 : Cond.classLink RX11 46 RX8 ∈ lw_ok := lw_i2 71 rfl rfl
theorem wN_X8 : Cond.instantiable RX8 13 ∈ lw_ok := lw_i2 72 rfl rfl
theorem wM_X11_48 : Cond.methodLink RX11 48 yX8_init ∈ lw_ok := lw_i2 73 rfl rfl
theorem wV_X8_init : Cond.instanceMethod yX8_init ∈ lw_ok := lw_i2 74 rfl rfl
theorem wK_X8_init : Cond.code yX8_init cX8_init 4 none ∈ lw_ok := lw_i2 75 rfl rfl
theorem wM_X8_3 : Cond.methodLink RX8 3 objectInit ∈ lw_ok := lw_i2 76 rfl rfl
theorem wM_X8_26 : Cond.methodLink RX8 26 ⟨"java/util/Arrays", "fill", "([II)V"⟩ ∈ lw_ok := lw_i2 77 rfl rfl
theorem wS_Arrays_fill___II_V : Cond.static ⟨"java/util/Arrays", "fill", "([II)V"⟩ ∈ lw_ok := lw_i2 78 rfl rfl
theorem wC_X8_32 : Cond.classLink RX8 32 RX7 ∈ lw_ok := lw_i2 80 rfl rfl
theorem wM_X8_38 : Cond.methodLink RX8 38 yX7_init ∈ lw_ok := lw_i2 82 rfl rfl
theorem wF_X8_9 : Cond.fieldLink RX8 9 RX8 "world" "LDomainHouse$World;" ∈ lw_ok := lw_i2 83 rfl rfl
theorem wF_X8_15 : Cond.fieldLink RX8 15 RX8 "court" "LDomainHouse$Judge;" ∈ lw_ok := lw_i2 84 rfl rfl
theorem wF_X8_19 : Cond.fieldLink RX8 19 RX8 "queue" "[I" ∈ lw_ok := lw_i2 85 rfl rfl
theorem wF_X8_23 : Cond.fieldLink RX8 23 RX8 "momentOf" "[I" ∈ lw_ok := lw_i2 86 rfl rfl
theorem wF_X8_34 : Cond.fieldLink RX8 34 RX8 "candidate" "[LDomainHouse$Route;" ∈ lw_ok := lw_i2 87 rfl rfl
theorem wF_X8_39 : Cond.fieldLink RX8 39 RX8 "winner" "[I" ∈ lw_ok := lw_i2 88 rfl rfl
theorem wF_X8_42 : Cond.fieldLink RX8 42 RX8 "own" "LDomainHouse$Route;" ∈ lw_ok := lw_i2 89 rfl rfl
theorem wF_X8_46 : Cond.fieldLink RX8 46 RX8 "nothing" "LDomainHouse$Route;" ∈ lw_ok := lw_i2 90 rfl rfl
theorem wF_X8_49 : Cond.fieldLink RX8 49 RX8 "outgoing" "LDomainHouse$Route;" ∈ lw_ok := lw_i2 91 rfl rfl
theorem wF_X8_200 : Cond.fieldLink RX8 200 RX8 "candidates" "I" ∈ lw_ok := lw_i2 92 rfl rfl
theorem wF_X8_52 : Cond.fieldLink RX8 52 RX8 "queued" "I" ∈ lw_ok := lw_i2 93 rfl rfl
theorem wF_X11_426 : Cond.fieldLink RX11 426 RX8 "queued" "I" ∈ lw_ok := lw_i2 94 rfl rfl
theorem wF_X8_62 : Cond.fieldLink RX8 62 RX8 "clock" "I" ∈ lw_ok := lw_i2 95 rfl rfl
theorem wF_X11_303 : Cond.fieldLink RX11 303 RX8 "clock" "I" ∈ lw_ok := lw_i2 96 rfl rfl
theorem wF_X8_69 : Cond.fieldLink RX8 69 RX8 "done" "I" ∈ lw_ok := lw_i2 97 rfl rfl
theorem wF_X11_429 : Cond.fieldLink RX11 429 RX8 "done" "I" ∈ lw_ok := lw_i2 98 rfl rfl
theorem wC_X11_55 : Cond.classLink RX11 55 RX3 ∈ lw_ok := lw_i2 126 rfl rfl
theorem wN_X3 : Cond.instantiable RX3 17 ∈ lw_ok := lw_i2 127 rfl rfl
theorem wM_X11_57 : Cond.methodLink RX11 57 yX3_init ∈ lw_ok := lw_i2 128 rfl rfl
theorem wV_X3_init : Cond.instanceMethod yX3_init ∈ lw_ok := lw_i2 129 rfl rfl
theorem wK_X3_init : Cond.code yX3_init cX3_init 1 none ∈ lw_ok := lw_i2 130 rfl rfl
theorem wM_X3_3 : Cond.methodLink RX3 3 objectInit ∈ lw_ok := lw_i2 131 rfl rfl
theorem wG_X3_21 : Cond.constant RX3 21 (-99999999) ∈ lw_ok := lw_i2 132 rfl rfl
theorem wC_X3_25 : Cond.classLink RX3 25 RX7 ∈ lw_ok := lw_i2 133 rfl rfl
theorem wM_X3_27 : Cond.methodLink RX3 27 yX7_init ∈ lw_ok := lw_i2 134 rfl rfl
theorem wF_X3_11 : Cond.fieldLink RX3 11 RX3 "seen" "[I" ∈ lw_ok := lw_i2 135 rfl rfl
theorem wF_X3_15 : Cond.fieldLink RX3 15 RX3 "carried" "[I" ∈ lw_ok := lw_i2 136 rfl rfl
theorem wF_X3_18 : Cond.fieldLink RX3 18 RX3 "marks" "[I" ∈ lw_ok := lw_i2 137 rfl rfl
theorem wF_X3_22 : Cond.fieldLink RX3 22 RX3 "faultPlace" "[I" ∈ lw_ok := lw_i2 138 rfl rfl
theorem wF_X3_41 : Cond.fieldLink RX3 41 RX3 "octets" "[I" ∈ lw_ok := lw_i2 139 rfl rfl
theorem wF_X3_79 : Cond.fieldLink RX3 79 RX3 "carriedCount" "I" ∈ lw_ok := lw_i2 140 rfl rfl
theorem wF_X3_59 : Cond.fieldLink RX3 59 RX3 "markCount" "I" ∈ lw_ok := lw_i2 141 rfl rfl
theorem wF_X3_82 : Cond.fieldLink RX3 82 RX3 "hasOrigin" "Z" ∈ lw_ok := lw_i2 142 rfl rfl
theorem wF_X3_85 : Cond.fieldLink RX3 85 RX3 "hasWay" "Z" ∈ lw_ok := lw_i2 143 rfl rfl
theorem wF_X3_28 : Cond.fieldLink RX3 28 RX3 "route" "LDomainHouse$Route;" ∈ lw_ok := lw_i2 144 rfl rfl
theorem wF_X8_130 : Cond.fieldLink RX8 130 RX3 "route" "LDomainHouse$Route;" ∈ lw_ok := lw_i2 145 rfl rfl
theorem wF_X3_32 : Cond.fieldLink RX3 32 RX3 "address" "[I" ∈ lw_ok := lw_i2 146 rfl rfl
theorem wF_X8_121 : Cond.fieldLink RX8 121 RX3 "address" "[I" ∈ lw_ok := lw_i2 147 rfl rfl
theorem wF_X3_35 : Cond.fieldLink RX3 35 RX3 "length" "[I" ∈ lw_ok := lw_i2 148 rfl rfl
theorem wF_X8_124 : Cond.fieldLink RX8 124 RX3 "length" "[I" ∈ lw_ok := lw_i2 149 rfl rfl
theorem wF_X3_38 : Cond.fieldLink RX3 38 RX3 "written" "[I" ∈ lw_ok := lw_i2 150 rfl rfl
theorem wF_X11_361 : Cond.fieldLink RX11 361 RX3 "written" "[I" ∈ lw_ok := lw_i2 151 rfl rfl
theorem wF_X3_63 : Cond.fieldLink RX3 63 RX3 "withdrawn" "I" ∈ lw_ok := lw_i2 152 rfl rfl
theorem wF_X8_113 : Cond.fieldLink RX8 113 RX3 "withdrawn" "I" ∈ lw_ok := lw_i2 153 rfl rfl
theorem wF_X3_66 : Cond.fieldLink RX3 66 RX3 "announced" "I" ∈ lw_ok := lw_i2 154 rfl rfl
theorem wF_X8_118 : Cond.fieldLink RX8 118 RX3 "announced" "I" ∈ lw_ok := lw_i2 155 rfl rfl
theorem wF_X3_163 : Cond.fieldLink RX3 163 RX3 "writtenSize" "I" ∈ lw_ok := lw_i2 156 rfl rfl
theorem wF_X11_358 : Cond.fieldLink RX11 358 RX3 "writtenSize" "I" ∈ lw_ok := lw_i2 157 rfl rfl
theorem wF_X3_51 : Cond.fieldLink RX3 51 RX3 "taken" "Z" ∈ lw_ok := lw_i2 158 rfl rfl
theorem wF_X11_344 : Cond.fieldLink RX11 344 RX3 "taken" "Z" ∈ lw_ok := lw_i2 159 rfl rfl
theorem wC_X11_62 : Cond.classLink RX11 62 RX2 ∈ lw_ok := lw_i2 195 rfl rfl
theorem wN_X2 : Cond.instantiable RX2 11 ∈ lw_ok := lw_i2 196 rfl rfl
theorem wM_X11_64 : Cond.methodLink RX11 64 yX2_init ∈ lw_ok := lw_i2 197 rfl rfl
theorem wV_X2_init : Cond.instanceMethod yX2_init ∈ lw_ok := lw_i2 198 rfl rfl
theorem wK_X2_init : Cond.code yX2_init cX2_init 2 none ∈ lw_ok := lw_i2 199 rfl rfl
theorem wM_X2_3 : Cond.methodLink RX2 3 objectInit ∈ lw_ok := lw_i2 200 rfl rfl
theorem wF_X2_9 : Cond.fieldLink RX2 9 RX2 "world" "LDomainHouse$World;" ∈ lw_ok := lw_i2 201 rfl rfl
theorem wF_X2_15 : Cond.fieldLink RX2 15 RX2 "stops" "[I" ∈ lw_ok := lw_i2 202 rfl rfl
theorem wF_X2_22 : Cond.fieldLink RX2 22 RX2 "demandFrom" "[I" ∈ lw_ok := lw_i2 203 rfl rfl
theorem wF_X2_25 : Cond.fieldLink RX2 25 RX2 "demandAddress" "[I" ∈ lw_ok := lw_i2 204 rfl rfl
theorem wF_X2_28 : Cond.fieldLink RX2 28 RX2 "demandUnits" "[I" ∈ lw_ok := lw_i2 205 rfl rfl
theorem wF_X2_31 : Cond.fieldLink RX2 31 RX2 "border" "[J" ∈ lw_ok := lw_i2 206 rfl rfl
theorem wF_X2_77 : Cond.fieldLink RX2 77 RX2 "stopCount" "I" ∈ lw_ok := lw_i2 207 rfl rfl
theorem wF_X2_98 : Cond.fieldLink RX2 98 RX2 "entries" "I" ∈ lw_ok := lw_i2 208 rfl rfl
theorem wF_X2_19 : Cond.fieldLink RX2 19 RX2 "ledTo" "[I" ∈ lw_ok := lw_i2 209 rfl rfl
theorem wF_X11_370 : Cond.fieldLink RX11 370 RX2 "ledTo" "[I" ∈ lw_ok := lw_i2 210 rfl rfl
theorem wF_X2_92 : Cond.fieldLink RX2 92 RX2 "ledCount" "I" ∈ lw_ok := lw_i2 211 rfl rfl
theorem wF_X11_367 : Cond.fieldLink RX11 367 RX2 "ledCount" "I" ∈ lw_ok := lw_i2 212 rfl rfl
theorem wF_X2_95 : Cond.fieldLink RX2 95 RX2 "demands" "I" ∈ lw_ok := lw_i2 213 rfl rfl
theorem wF_X11_373 : Cond.fieldLink RX11 373 RX2 "demands" "I" ∈ lw_ok := lw_i2 214 rfl rfl
theorem wC_X11_69 : Cond.classLink RX11 69 RX4 ∈ lw_ok := lw_i2 238 rfl rfl
theorem wN_X4 : Cond.instantiable RX4 15 ∈ lw_ok := lw_i2 239 rfl rfl
theorem wM_X11_71 : Cond.methodLink RX11 71 yX4_init ∈ lw_ok := lw_i3 0 rfl rfl
theorem wV_X4_init : Cond.instanceMethod yX4_init ∈ lw_ok := lw_i3 1 rfl rfl
theorem wK_X4_init : Cond.code yX4_init cX4_init 1 none ∈ lw_ok := lw_i3 2 rfl rfl
theorem wM_X4_3 : Cond.methodLink RX4 3 objectInit ∈ lw_ok := lw_i3 3 rfl rfl
theorem wF_X4_15 : Cond.fieldLink RX4 15 RX4 "ways" "[I" ∈ lw_ok := lw_i3 4 rfl rfl
theorem wF_X4_18 : Cond.fieldLink RX4 18 RX4 "lengths" "[I" ∈ lw_ok := lw_i3 5 rfl rfl
theorem wF_X4_21 : Cond.fieldLink RX4 21 RX4 "neededPlace" "[I" ∈ lw_ok := lw_i3 6 rfl rfl
theorem wF_X4_24 : Cond.fieldLink RX4 24 RX4 "neededWay" "[I" ∈ lw_ok := lw_i3 7 rfl rfl
theorem wF_X4_27 : Cond.fieldLink RX4 27 RX4 "weight" "[I" ∈ lw_ok := lw_i3 8 rfl rfl
theorem wF_X4_30 : Cond.fieldLink RX4 30 RX4 "has" "[I" ∈ lw_ok := lw_i3 9 rfl rfl
theorem wF_X4_33 : Cond.fieldLink RX4 33 RX4 "queue" "[I" ∈ lw_ok := lw_i3 10 rfl rfl
theorem wF_X4_36 : Cond.fieldLink RX4 36 RX4 "restState" "[I" ∈ lw_ok := lw_i3 11 rfl rfl
theorem wF_X4_39 : Cond.fieldLink RX4 39 RX4 "flags" "[B" ∈ lw_ok := lw_i3 12 rfl rfl
theorem wF_X4_59 : Cond.fieldLink RX4 59 RX4 "states" "I" ∈ lw_ok := lw_i3 13 rfl rfl
theorem wF_X4_52 : Cond.fieldLink RX4 52 RX4 "restsKnown" "Z" ∈ lw_ok := lw_i3 14 rfl rfl
theorem wF_X4_56 : Cond.fieldLink RX4 56 RX4 "explored" "Z" ∈ lw_ok := lw_i3 15 rfl rfl
theorem wF_X4_11 : Cond.fieldLink RX4 11 RX4 "wishes" "[I" ∈ lw_ok := lw_i3 16 rfl rfl
theorem wF_X11_405 : Cond.fieldLink RX11 405 RX4 "wishes" "[I" ∈ lw_ok := lw_i3 17 rfl rfl
theorem wF_X4_43 : Cond.fieldLink RX4 43 RX4 "found" "[I" ∈ lw_ok := lw_i3 18 rfl rfl
theorem wF_X11_423 : Cond.fieldLink RX11 423 RX4 "found" "[I" ∈ lw_ok := lw_i3 19 rfl rfl
theorem wF_X4_82 : Cond.fieldLink RX4 82 RX4 "restCount" "I" ∈ lw_ok := lw_i3 20 rfl rfl
theorem wF_X11_414 : Cond.fieldLink RX11 414 RX4 "restCount" "I" ∈ lw_ok := lw_i3 21 rfl rfl
theorem wA_byte : Cond.arrayClass (Jvm.ClassFile.FieldType.byte) ∈ lw_ok := lw_i3 53 rfl rfl
theorem wF_X11_9 : Cond.fieldLink RX11 9 RX11 "tape" "[I" ∈ lw_ok := lw_i3 54 rfl rfl
theorem wF_X11_13 : Cond.fieldLink RX11 13 RX11 "wayInHand" "[I" ∈ lw_ok := lw_i3 55 rfl rfl
theorem wF_X11_19 : Cond.fieldLink RX11 19 RX11 "routeInHand" "LDomainHouse$Route;" ∈ lw_ok := lw_i3 56 rfl rfl
theorem wF_X11_26 : Cond.fieldLink RX11 26 RX11 "world" "LDomainHouse$World;" ∈ lw_ok := lw_i3 57 rfl rfl
theorem wF_X11_35 : Cond.fieldLink RX11 35 RX11 "court" "LDomainHouse$Judge;" ∈ lw_ok := lw_i3 58 rfl rfl
theorem wF_X11_42 : Cond.fieldLink RX11 42 RX11 "reader" "LDomainHouse$Reader;" ∈ lw_ok := lw_i3 59 rfl rfl
theorem wF_X11_51 : Cond.fieldLink RX11 51 RX11 "talk" "LDomainHouse$Talk;" ∈ lw_ok := lw_i3 60 rfl rfl
theorem wF_X11_58 : Cond.fieldLink RX11 58 RX11 "mail" "LDomainHouse$Message;" ∈ lw_ok := lw_i3 61 rfl rfl
theorem wF_X11_65 : Cond.fieldLink RX11 65 RX11 "letters" "LDomainHouse$Letters;" ∈ lw_ok := lw_i3 62 rfl rfl
theorem wF_X11_72 : Cond.fieldLink RX11 72 RX11 "net" "LDomainHouse$Net;" ∈ lw_ok := lw_i3 63 rfl rfl
theorem wF_X11_76 : Cond.fieldLink RX11 76 RX11 "tapeSize" "I" ∈ lw_ok := lw_i3 64 rfl rfl
theorem wF_X11_169 : Cond.fieldLink RX11 169 RX11 "wayLength" "I" ∈ lw_ok := lw_i3 65 rfl rfl
theorem wM_DomainHouseLaw_13 : Cond.methodLink "DomainHouseLaw" 13 yX11_feed ∈ lw_ok := lw_i3 91 rfl rfl
theorem wV_X11_feed : Cond.instanceMethod yX11_feed ∈ lw_ok := lw_i3 92 rfl rfl
theorem wL_X11_feed : Cond.selects RX11 yX11_feed yX11_feed ∈ lw_ok := lw_i3 93 rfl rfl
theorem wK_X11_feed : Cond.code yX11_feed cX11_feed 6 (some .int) ∈ lw_ok := lw_i3 94 rfl rfl
theorem wM_X11_80 : Cond.methodLink RX11 80 yX11_feedNumber ∈ lw_ok := lw_i3 95 rfl rfl
theorem wV_X11_feedNumber : Cond.instanceMethod yX11_feedNumber ∈ lw_ok := lw_i3 97 rfl rfl
theorem wK_X11_feedNumber : Cond.code yX11_feedNumber cX11_feedNumber 3 none ∈ lw_ok := lw_i3 98 rfl rfl
theorem wM_DomainHouseLaw_18 : Cond.methodLink "DomainHouseLaw" 18 yX11_cut ∈ lw_ok := lw_i3 99 rfl rfl
theorem wV_X11_cut : Cond.instanceMethod yX11_cut ∈ lw_ok := lw_i3 100 rfl rfl
theorem wL_X11_cut : Cond.selects RX11 yX11_cut yX11_cut ∈ lw_ok := lw_i3 101 rfl rfl
theorem wK_X11_cut : Cond.code yX11_cut cX11_cut 3 (some .int) ∈ lw_ok := lw_i3 102 rfl rfl
theorem wM_DomainHouseLaw_23 : Cond.methodLink "DomainHouseLaw" 23 yX11_prefix ∈ lw_ok := lw_i3 103 rfl rfl
theorem wV_X11_prefix : Cond.instanceMethod yX11_prefix ∈ lw_ok := lw_i3 104 rfl rfl
theorem wL_X11_prefix : Cond.selects RX11 yX11_prefix yX11_prefix ∈ lw_ok := lw_i3 105 rfl rfl
theorem wK_X11_prefix : Cond.code yX11_prefix cX11_prefix 3 (some .int) ∈ lw_ok := lw_i3 106 rfl rfl
theorem wM_X11_84 : Cond.methodLink RX11 84 yX10_maskOf ∈ lw_ok := lw_i3 107 rfl rfl
theorem wS_X10_maskOf : Cond.static yX10_maskOf ∈ lw_ok := lw_i3 108 rfl rfl
theorem wK_X10_maskOf : Cond.code yX10_maskOf cX10_maskOf 1 (some .int) ∈ lw_ok := lw_i3 109 rfl rfl
theorem wM_X11_88 : Cond.methodLink RX11 88 yX10_findPrefix ∈ lw_ok := lw_i3 110 rfl rfl
theorem wV_X10_findPrefix : Cond.instanceMethod yX10_findPrefix ∈ lw_ok := lw_i3 111 rfl rfl
theorem wL_X10_findPrefix : Cond.selects RX10 yX10_findPrefix yX10_findPrefix ∈ lw_ok := lw_i3 112 rfl rfl
theorem wK_X10_findPrefix : Cond.code yX10_findPrefix cX10_findPrefix 4 (some .int) ∈ lw_ok := lw_i3 113 rfl rfl
theorem wM_X11_95 : Cond.methodLink RX11 95 yX10_addPrefix ∈ lw_ok := lw_i3 114 rfl rfl
theorem wV_X10_addPrefix : Cond.instanceMethod yX10_addPrefix ∈ lw_ok := lw_i3 115 rfl rfl
theorem wL_X10_addPrefix : Cond.selects RX10 yX10_addPrefix yX10_addPrefix ∈ lw_ok := lw_i3 116 rfl rfl
theorem wK_X10_addPrefix : Cond.code yX10_addPrefix cX10_addPrefix 3 (some .int) ∈ lw_ok := lw_i3 117 rfl rfl
theorem wM_X10_64 : Cond.methodLink RX10 64 yX10_maskOf ∈ lw_ok := lw_i3 118 rfl rfl
theorem wM_DomainHouseLaw_28 : Cond.methodLink "DomainHouseLaw" 28 yX11_domain ∈ lw_ok := lw_i3 119 rfl rfl
theorem wV_X11_domain : Cond.instanceMethod yX11_domain ∈ lw_ok := lw_i3 120 rfl rfl
theorem wL_X11_domain : Cond.selects RX11 yX11_domain yX11_domain ∈ lw_ok := lw_i3 121 rfl rfl
theorem wK_X11_domain : Cond.code yX11_domain cX11_domain 1 (some .int) ∈ lw_ok := lw_i3 122 rfl rfl
theorem wM_X11_101 : Cond.methodLink RX11 101 yX10_addDomain ∈ lw_ok := lw_i3 123 rfl rfl
theorem wV_X10_addDomain : Cond.instanceMethod yX10_addDomain ∈ lw_ok := lw_i3 124 rfl rfl
theorem wL_X10_addDomain : Cond.selects RX10 yX10_addDomain yX10_addDomain ∈ lw_ok := lw_i3 125 rfl rfl
theorem wK_X10_addDomain : Cond.code yX10_addDomain cX10_addDomain 1 (some .int) ∈ lw_ok := lw_i3 126 rfl rfl
theorem wN_X0 : Cond.instantiable RX0 6 ∈ lw_ok := lw_i3 127 rfl rfl
theorem wM_X10_71 : Cond.methodLink RX10 71 yX0_init ∈ lw_ok := lw_i3 128 rfl rfl
theorem wV_X0_init : Cond.instanceMethod yX0_init ∈ lw_ok := lw_i3 129 rfl rfl
theorem wK_X0_init : Cond.code yX0_init cX0_init 2 none ∈ lw_ok := lw_i3 130 rfl rfl
theorem wM_X0_3 : Cond.methodLink RX0 3 objectInit ∈ lw_ok := lw_i3 131 rfl rfl
theorem wM_X0_15 : Cond.methodLink RX0 15 yX0_goBy ∈ lw_ok := lw_i3 132 rfl rfl
theorem wV_X0_goBy : Cond.instanceMethod yX0_goBy ∈ lw_ok := lw_i3 133 rfl rfl
theorem wL_X0_goBy : Cond.selects RX0 yX0_goBy yX0_goBy ∈ lw_ok := lw_i3 134 rfl rfl
theorem wK_X0_goBy : Cond.code yX0_goBy cX0_goBy 5 none ∈ lw_ok := lw_i3 135 rfl rfl
theorem wC_X0_25 : Cond.classLink RX0 25 RX7 ∈ lw_ok := lw_i3 136 rfl rfl
theorem wG_X0_31 : Cond.constant RX0 31 (-99999999) ∈ lw_ok := lw_i3 137 rfl rfl
theorem wM_X0_32 : Cond.methodLink RX0 32 yX7_init ∈ lw_ok := lw_i3 138 rfl rfl
theorem wF_X0_9 : Cond.fieldLink RX0 9 RX0 "steps" "[I" ∈ lw_ok := lw_i3 139 rfl rfl
theorem wF_X0_19 : Cond.fieldLink RX0 19 RX0 "begun" "[I" ∈ lw_ok := lw_i3 140 rfl rfl
theorem wF_X8_167 : Cond.fieldLink RX8 167 RX0 "begun" "[I" ∈ lw_ok := lw_i3 141 rfl rfl
theorem wF_X11_293 : Cond.fieldLink RX11 293 RX0 "begun" "[I" ∈ lw_ok := lw_i3 142 rfl rfl
theorem wF_X0_22 : Cond.fieldLink RX0 22 RX0 "pickedTie" "[I" ∈ lw_ok := lw_i3 143 rfl rfl
theorem wF_X2_52 : Cond.fieldLink RX2 52 RX0 "pickedTie" "[I" ∈ lw_ok := lw_i3 144 rfl rfl
theorem wF_X8_190 : Cond.fieldLink RX8 190 RX0 "pickedTie" "[I" ∈ lw_ok := lw_i3 145 rfl rfl
theorem wF_X11_310 : Cond.fieldLink RX11 310 RX0 "pickedTie" "[I" ∈ lw_ok := lw_i3 146 rfl rfl
theorem wF_X0_27 : Cond.fieldLink RX0 27 RX0 "picked" "[LDomainHouse$Route;" ∈ lw_ok := lw_i3 147 rfl rfl
theorem wF_X8_193 : Cond.fieldLink RX8 193 RX0 "picked" "[LDomainHouse$Route;" ∈ lw_ok := lw_i3 148 rfl rfl
theorem wF_X11_313 : Cond.fieldLink RX11 313 RX0 "picked" "[LDomainHouse$Route;" ∈ lw_ok := lw_i3 149 rfl rfl
theorem wF_X0_37 : Cond.fieldLink RX0 37 RX0 "stepCount" "I" ∈ lw_ok := lw_i3 150 rfl rfl
theorem wF_X0_33 : Cond.fieldLink RX0 33 RX0 "grouped" "Z" ∈ lw_ok := lw_i3 151 rfl rfl
theorem wF_X8_178 : Cond.fieldLink RX8 178 RX0 "grouped" "Z" ∈ lw_ok := lw_i3 152 rfl rfl
theorem wM_DomainHouseLaw_33 : Cond.methodLink "DomainHouseLaw" 33 yX11_tie ∈ lw_ok := lw_i3 166 rfl rfl
theorem wV_X11_tie : Cond.instanceMethod yX11_tie ∈ lw_ok := lw_i3 167 rfl rfl
theorem wL_X11_tie : Cond.selects RX11 yX11_tie yX11_tie ∈ lw_ok := lw_i3 168 rfl rfl
theorem wK_X11_tie : Cond.code yX11_tie cX11_tie 4 (some .int) ∈ lw_ok := lw_i3 169 rfl rfl
theorem wM_X11_105 : Cond.methodLink RX11 105 yX11_isDomain ∈ lw_ok := lw_i3 170 rfl rfl
theorem wV_X11_isDomain : Cond.instanceMethod yX11_isDomain ∈ lw_ok := lw_i3 172 rfl rfl
theorem wK_X11_isDomain : Cond.code yX11_isDomain cX11_isDomain 2 (some .boolean) ∈ lw_ok := lw_i3 173 rfl rfl
theorem wM_X11_109 : Cond.methodLink RX11 109 yX10_tieBetween ∈ lw_ok := lw_i3 174 rfl rfl
theorem wV_X10_tieBetween : Cond.instanceMethod yX10_tieBetween ∈ lw_ok := lw_i3 175 rfl rfl
theorem wL_X10_tieBetween : Cond.selects RX10 yX10_tieBetween yX10_tieBetween ∈ lw_ok := lw_i3 176 rfl rfl
theorem wK_X10_tieBetween : Cond.code yX10_tieBetween cX10_tieBetween 5 (some .int) ∈ lw_ok := lw_i3 177 rfl rfl
theorem wM_X11_115 : Cond.methodLink RX11 115 yX10_addTie ∈ lw_ok := lw_i3 178 rfl rfl
theorem wV_X10_addTie : Cond.instanceMethod yX10_addTie ∈ lw_ok := lw_i3 179 rfl rfl
theorem wL_X10_addTie : Cond.selects RX10 yX10_addTie yX10_addTie ∈ lw_ok := lw_i3 180 rfl rfl
theorem wK_X10_addTie : Cond.code yX10_addTie cX10_addTie 4 (some .int) ∈ lw_ok := lw_i3 181 rfl rfl
theorem wN_X9 : Cond.instantiable RX9 9 ∈ lw_ok := lw_i3 182 rfl rfl
theorem wM_X10_75 : Cond.methodLink RX10 75 yX9_init ∈ lw_ok := lw_i3 183 rfl rfl
theorem wV_X9_init : Cond.instanceMethod yX9_init ∈ lw_ok := lw_i3 184 rfl rfl
theorem wK_X9_init : Cond.code yX9_init cX9_init 5 none ∈ lw_ok := lw_i3 185 rfl rfl
theorem wM_X9_3 : Cond.methodLink RX9 3 objectInit ∈ lw_ok := lw_i3 186 rfl rfl
theorem wG_X9_28 : Cond.constant RX9 28 (-99999999) ∈ lw_ok := lw_i3 187 rfl rfl
theorem wC_X9_33 : Cond.classLink RX9 33 RX7 ∈ lw_ok := lw_i3 188 rfl rfl
theorem wM_X9_42 : Cond.methodLink RX9 42 yX7_init ∈ lw_ok := lw_i3 189 rfl rfl
theorem wF_X9_9 : Cond.fieldLink RX9 9 RX9 "a" "I" ∈ lw_ok := lw_i3 190 rfl rfl
theorem wF_X10_78 : Cond.fieldLink RX10 78 RX9 "a" "I" ∈ lw_ok := lw_i3 191 rfl rfl
theorem wF_X11_145 : Cond.fieldLink RX11 145 RX9 "a" "I" ∈ lw_ok := lw_i3 192 rfl rfl
theorem wF_X9_15 : Cond.fieldLink RX9 15 RX9 "b" "I" ∈ lw_ok := lw_i3 193 rfl rfl
theorem wF_X10_81 : Cond.fieldLink RX10 81 RX9 "b" "I" ∈ lw_ok := lw_i3 194 rfl rfl
theorem wF_X11_151 : Cond.fieldLink RX11 151 RX9 "b" "I" ∈ lw_ok := lw_i3 195 rfl rfl
theorem wF_X9_18 : Cond.fieldLink RX9 18 RX9 "kind" "I" ∈ lw_ok := lw_i3 196 rfl rfl
theorem wF_X10_84 : Cond.fieldLink RX10 84 RX9 "kind" "I" ∈ lw_ok := lw_i3 197 rfl rfl
theorem wF_X9_29 : Cond.fieldLink RX9 29 RX9 "policy" "[I" ∈ lw_ok := lw_i3 198 rfl rfl
theorem wF_X8_213 : Cond.fieldLink RX8 213 RX9 "policy" "[I" ∈ lw_ok := lw_i3 199 rfl rfl
theorem wF_X11_274 : Cond.fieldLink RX11 274 RX9 "policy" "[I" ∈ lw_ok := lw_i3 200 rfl rfl
theorem wF_X9_35 : Cond.fieldLink RX9 35 RX9 "heard" "[LDomainHouse$Route;" ∈ lw_ok := lw_i3 201 rfl rfl
theorem wF_X8_96 : Cond.fieldLink RX8 96 RX9 "heard" "[LDomainHouse$Route;" ∈ lw_ok := lw_i3 202 rfl rfl
theorem wF_X11_324 : Cond.fieldLink RX11 324 RX9 "heard" "[LDomainHouse$Route;" ∈ lw_ok := lw_i3 203 rfl rfl
theorem wF_X9_39 : Cond.fieldLink RX9 39 RX9 "said" "[LDomainHouse$Route;" ∈ lw_ok := lw_i3 204 rfl rfl
theorem wF_X8_103 : Cond.fieldLink RX8 103 RX9 "said" "[LDomainHouse$Route;" ∈ lw_ok := lw_i3 205 rfl rfl
theorem wF_X11_327 : Cond.fieldLink RX11 327 RX9 "said" "[LDomainHouse$Route;" ∈ lw_ok := lw_i3 206 rfl rfl
theorem wF_X9_21 : Cond.fieldLink RX9 21 RX9 "up" "Z" ∈ lw_ok := lw_i3 207 rfl rfl
theorem wF_X8_136 : Cond.fieldLink RX8 136 RX9 "up" "Z" ∈ lw_ok := lw_i3 208 rfl rfl
theorem wF_X11_134 : Cond.fieldLink RX11 134 RX9 "up" "Z" ∈ lw_ok := lw_i3 209 rfl rfl
theorem wF_X9_25 : Cond.fieldLink RX9 25 RX9 "delay" "I" ∈ lw_ok := lw_i3 210 rfl rfl
theorem wF_X11_126 : Cond.fieldLink RX11 126 RX9 "delay" "I" ∈ lw_ok := lw_i3 211 rfl rfl
theorem wF_X8_269 : Cond.fieldLink RX8 269 RX9 "delay" "I" ∈ lw_ok := lw_i3 212 rfl rfl
theorem wF_X11_131 : Cond.fieldLink RX11 131 RX9 "gap" "I" ∈ lw_ok := lw_i3 213 rfl rfl
theorem wF_X8_263 : Cond.fieldLink RX8 263 RX9 "gap" "I" ∈ lw_ok := lw_i3 214 rfl rfl
theorem wM_DomainHouseLaw_38 : Cond.methodLink "DomainHouseLaw" 38 yX11_pace ∈ lw_ok := lw_i3 234 rfl rfl
theorem wV_X11_pace : Cond.instanceMethod yX11_pace ∈ lw_ok := lw_i3 235 rfl rfl
theorem wL_X11_pace : Cond.selects RX11 yX11_pace yX11_pace ∈ lw_ok := lw_i3 236 rfl rfl
theorem wK_X11_pace : Cond.code yX11_pace cX11_pace 4 (some .int) ∈ lw_ok := lw_i3 237 rfl rfl
theorem wM_X11_119 : Cond.methodLink RX11 119 yX11_isTie ∈ lw_ok := lw_i3 238 rfl rfl
theorem wV_X11_isTie : Cond.instanceMethod yX11_isTie ∈ lw_ok := lw_i4 0 rfl rfl
theorem wK_X11_isTie : Cond.code yX11_isTie cX11_isTie 2 (some .boolean) ∈ lw_ok := lw_i4 1 rfl rfl
theorem wM_DomainHouseLaw_42 : Cond.methodLink "DomainHouseLaw" 42 yX11_raise ∈ lw_ok := lw_i4 2 rfl rfl
theorem wV_X11_raise : Cond.instanceMethod yX11_raise ∈ lw_ok := lw_i4 3 rfl rfl
theorem wL_X11_raise : Cond.selects RX11 yX11_raise yX11_raise ∈ lw_ok := lw_i4 4 rfl rfl
theorem wK_X11_raise : Cond.code yX11_raise cX11_raise 4 (some .int) ∈ lw_ok := lw_i4 5 rfl rfl
theorem wM_X11_138 : Cond.methodLink RX11 138 yX8_sayAll ∈ lw_ok := lw_i4 6 rfl rfl
theorem wV_X8_sayAll : Cond.instanceMethod yX8_sayAll ∈ lw_ok := lw_i4 7 rfl rfl
theorem wL_X8_sayAll : Cond.selects RX8 yX8_sayAll yX8_sayAll ∈ lw_ok := lw_i4 8 rfl rfl
theorem wK_X8_sayAll : Cond.code yX8_sayAll cX8_sayAll 4 none ∈ lw_ok := lw_i4 9 rfl rfl
theorem wM_X8_72 : Cond.methodLink RX8 72 yX8_say ∈ lw_ok := lw_i4 10 rfl rfl
theorem wV_X8_say : Cond.instanceMethod yX8_say ∈ lw_ok := lw_i4 12 rfl rfl
theorem wK_X8_say : Cond.code yX8_say cX8_say 7 none ∈ lw_ok := lw_i4 13 rfl rfl
theorem wM_X8_256 : Cond.methodLink RX8 256 yX8_compose ∈ lw_ok := lw_i4 14 rfl rfl
theorem wV_X8_compose : Cond.instanceMethod yX8_compose ∈ lw_ok := lw_i4 16 rfl rfl
theorem wK_X8_compose : Cond.code yX8_compose cX8_compose 7 none ∈ lw_ok := lw_i4 17 rfl rfl
theorem wM_X8_86 : Cond.methodLink RX8 86 yX9_end ∈ lw_ok := lw_i4 18 rfl rfl
theorem wV_X9_end : Cond.instanceMethod yX9_end ∈ lw_ok := lw_i4 19 rfl rfl
theorem wL_X9_end : Cond.selects RX9 yX9_end yX9_end ∈ lw_ok := lw_i4 20 rfl rfl
theorem wK_X9_end : Cond.code yX9_end cX9_end 2 (some .int) ∈ lw_ok := lw_i4 21 rfl rfl
theorem wM_X8_106 : Cond.methodLink RX8 106 yX7_become ∈ lw_ok := lw_i4 22 rfl rfl
theorem wV_X7_become : Cond.instanceMethod yX7_become ∈ lw_ok := lw_i4 23 rfl rfl
theorem wL_X7_become : Cond.selects RX7 yX7_become yX7_become ∈ lw_ok := lw_i4 24 rfl rfl
theorem wK_X7_become : Cond.code yX7_become cX7_become 2 none ∈ lw_ok := lw_i4 25 rfl rfl
theorem wM_X7_44 : Cond.methodLink RX7 44 ⟨"java/lang/System", "arraycopy", "(Ljava/lang/Object;ILjava/lang/Object;II)V"⟩ ∈ lw_ok := lw_i4 26 rfl rfl
theorem wS_System_arraycopy__Ljava_lang_Object_ILjava_lang_Object_II_V : Cond.static ⟨"java/lang/System", "arraycopy", "(Ljava/lang/Object;ILjava/lang/Object;II)V"⟩ ∈ lw_ok := lw_i4 27 rfl rfl
theorem wM_X8_272 : Cond.methodLink RX8 272 yX7_putInFront ∈ lw_ok := lw_i4 29 rfl rfl
theorem wV_X7_putInFront : Cond.instanceMethod yX7_putInFront ∈ lw_ok := lw_i4 30 rfl rfl
theorem wL_X7_putInFront : Cond.selects RX7 yX7_putInFront yX7_putInFront ∈ lw_ok := lw_i4 31 rfl rfl
theorem wK_X7_putInFront : Cond.code yX7_putInFront cX7_putInFront 4 (some .boolean) ∈ lw_ok := lw_i4 32 rfl rfl
theorem wM_X8_216 : Cond.methodLink RX8 216 yX1_lets ∈ lw_ok := lw_i4 33 rfl rfl
theorem wV_X1_lets : Cond.instanceMethod yX1_lets ∈ lw_ok := lw_i4 34 rfl rfl
theorem wL_X1_lets : Cond.selects RX1 yX1_lets yX1_lets ∈ lw_ok := lw_i4 35 rfl rfl
theorem wK_X1_lets : Cond.code yX1_lets cX1_lets 5 (some .boolean) ∈ lw_ok := lw_i4 36 rfl rfl
theorem wM_X1_29 : Cond.methodLink RX1 29 yX9_end ∈ lw_ok := lw_i4 37 rfl rfl
theorem wM_X1_41 : Cond.methodLink RX1 41 yX9_partnerRole ∈ lw_ok := lw_i4 38 rfl rfl
theorem wV_X9_partnerRole : Cond.instanceMethod yX9_partnerRole ∈ lw_ok := lw_i4 39 rfl rfl
theorem wL_X9_partnerRole : Cond.selects RX9 yX9_partnerRole yX9_partnerRole ∈ lw_ok := lw_i4 40 rfl rfl
theorem wK_X9_partnerRole : Cond.code yX9_partnerRole cX9_partnerRole 2 (some .int) ∈ lw_ok := lw_i4 41 rfl rfl
theorem wM_X1_53 : Cond.methodLink RX1 53 yX1_goThrough ∈ lw_ok := lw_i4 42 rfl rfl
theorem wV_X1_goThrough : Cond.instanceMethod yX1_goThrough ∈ lw_ok := lw_i4 44 rfl rfl
theorem wK_X1_goThrough : Cond.code yX1_goThrough cX1_goThrough 11 none ∈ lw_ok := lw_i4 45 rfl rfl
theorem wM_X1_64 : Cond.methodLink RX1 64 yX1_isSo ∈ lw_ok := lw_i4 46 rfl rfl
theorem wV_X1_isSo : Cond.instanceMethod yX1_isSo ∈ lw_ok := lw_i4 48 rfl rfl
theorem wK_X1_isSo : Cond.code yX1_isSo cX1_isSo 8 (some .boolean) ∈ lw_ok := lw_i4 49 rfl rfl
theorem wM_X1_85 : Cond.methodLink RX1 85 yX10_maskOf ∈ lw_ok := lw_i4 50 rfl rfl
theorem wM_X1_88 : Cond.methodLink RX1 88 yX5_tells ∈ lw_ok := lw_i4 51 rfl rfl
theorem wV_X5_tells : Cond.instanceMethod yX5_tells ∈ lw_ok := lw_i4 52 rfl rfl
theorem wL_X5_tells : Cond.selects RX5 yX5_tells yX5_tells ∈ lw_ok := lw_i4 53 rfl rfl
theorem wK_X5_tells : Cond.code yX5_tells cX5_tells 13 (some .boolean) ∈ lw_ok := lw_i4 54 rfl rfl
theorem wM_X1_92 : Cond.methodLink RX1 92 yX7_hasMark ∈ lw_ok := lw_i4 55 rfl rfl
theorem wV_X7_hasMark : Cond.instanceMethod yX7_hasMark ∈ lw_ok := lw_i4 56 rfl rfl
theorem wL_X7_hasMark : Cond.selects RX7 yX7_hasMark yX7_hasMark ∈ lw_ok := lw_i4 57 rfl rfl
theorem wK_X7_hasMark : Cond.code yX7_hasMark cX7_hasMark 3 (some .boolean) ∈ lw_ok := lw_i4 58 rfl rfl
theorem wM_X1_99 : Cond.methodLink RX1 99 ⟨"java/lang/Integer", "compare", "(II)I"⟩ ∈ lw_ok := lw_i4 59 rfl rfl
theorem wS_Integer_compare__II_I : Cond.static ⟨"java/lang/Integer", "compare", "(II)I"⟩ ∈ lw_ok := lw_i4 60 rfl rfl
theorem wM_X1_120 : Cond.methodLink RX1 120 yX10_verdictOn ∈ lw_ok := lw_i4 62 rfl rfl
theorem wV_X10_verdictOn : Cond.instanceMethod yX10_verdictOn ∈ lw_ok := lw_i4 63 rfl rfl
theorem wL_X10_verdictOn : Cond.selects RX10 yX10_verdictOn yX10_verdictOn ∈ lw_ok := lw_i4 64 rfl rfl
theorem wK_X10_verdictOn : Cond.code yX10_verdictOn cX10_verdictOn 11 (some .int) ∈ lw_ok := lw_i4 65 rfl rfl
theorem wM_X1_68 : Cond.methodLink RX1 68 yX1_doActs ∈ lw_ok := lw_i4 66 rfl rfl
theorem wV_X1_doActs : Cond.instanceMethod yX1_doActs ∈ lw_ok := lw_i4 68 rfl rfl
theorem wK_X1_doActs : Cond.code yX1_doActs cX1_doActs 7 none ∈ lw_ok := lw_i4 69 rfl rfl
theorem wM_X1_124 : Cond.methodLink RX1 124 yX7_addMark ∈ lw_ok := lw_i4 70 rfl rfl
theorem wV_X7_addMark : Cond.instanceMethod yX7_addMark ∈ lw_ok := lw_i4 71 rfl rfl
theorem wL_X7_addMark : Cond.selects RX7 yX7_addMark yX7_addMark ∈ lw_ok := lw_i4 72 rfl rfl
theorem wK_X7_addMark : Cond.code yX7_addMark cX7_addMark 5 none ∈ lw_ok := lw_i4 73 rfl rfl
theorem wM_X1_128 : Cond.methodLink RX1 128 yX7_dropMark ∈ lw_ok := lw_i4 74 rfl rfl
theorem wV_X7_dropMark : Cond.instanceMethod yX7_dropMark ∈ lw_ok := lw_i4 75 rfl rfl
theorem wL_X7_dropMark : Cond.selects RX7 yX7_dropMark yX7_dropMark ∈ lw_ok := lw_i4 76 rfl rfl
theorem wK_X7_dropMark : Cond.code yX7_dropMark cX7_dropMark 4 none ∈ lw_ok := lw_i4 77 rfl rfl
theorem wM_X1_131 : Cond.methodLink RX1 131 yX7_putInFront ∈ lw_ok := lw_i4 78 rfl rfl
theorem wM_X8_99 : Cond.methodLink RX8 99 yX9_placeOf ∈ lw_ok := lw_i4 79 rfl rfl
theorem wS_X9_placeOf : Cond.static yX9_placeOf ∈ lw_ok := lw_i4 80 rfl rfl
theorem wK_X9_placeOf : Cond.code yX9_placeOf cX9_placeOf 2 (some .int) ∈ lw_ok := lw_i4 81 rfl rfl
theorem wM_X8_196 : Cond.methodLink RX8 196 yX7_isAlike ∈ lw_ok := lw_i4 82 rfl rfl
theorem wV_X7_isAlike : Cond.instanceMethod yX7_isAlike ∈ lw_ok := lw_i4 83 rfl rfl
theorem wL_X7_isAlike : Cond.selects RX7 yX7_isAlike yX7_isAlike ∈ lw_ok := lw_i4 84 rfl rfl
theorem wK_X7_isAlike : Cond.code yX7_isAlike cX7_isAlike 3 (some .boolean) ∈ lw_ok := lw_i4 85 rfl rfl
theorem wM_X8_143 : Cond.methodLink RX8 143 yX8_slotOf ∈ lw_ok := lw_i4 86 rfl rfl
theorem wS_X8_slotOf : Cond.static yX8_slotOf ∈ lw_ok := lw_i4 87 rfl rfl
theorem wK_X8_slotOf : Cond.code yX8_slotOf cX8_slotOf 4 (some .int) ∈ lw_ok := lw_i4 88 rfl rfl
theorem wM_X8_266 : Cond.methodLink RX8 266 yX8_schedule ∈ lw_ok := lw_i4 89 rfl rfl
theorem wV_X8_schedule : Cond.instanceMethod yX8_schedule ∈ lw_ok := lw_i4 91 rfl rfl
theorem wK_X8_schedule : Cond.code yX8_schedule cX8_schedule 4 none ∈ lw_ok := lw_i4 92 rfl rfl
theorem wM_X8_56 : Cond.methodLink RX8 56 ⟨"java/lang/System", "arraycopy", "(Ljava/lang/Object;ILjava/lang/Object;II)V"⟩ ∈ lw_ok := lw_i4 93 rfl rfl
theorem wM_X8_65 : Cond.methodLink RX8 65 yX8_cancel ∈ lw_ok := lw_i4 94 rfl rfl
theorem wV_X8_cancel : Cond.instanceMethod yX8_cancel ∈ lw_ok := lw_i4 96 rfl rfl
theorem wK_X8_cancel : Cond.code yX8_cancel cX8_cancel 3 none ∈ lw_ok := lw_i4 97 rfl rfl
theorem wM_X11_142 : Cond.methodLink RX11 142 yX8_silence ∈ lw_ok := lw_i4 98 rfl rfl
theorem wV_X8_silence : Cond.instanceMethod yX8_silence ∈ lw_ok := lw_i4 99 rfl rfl
theorem wL_X8_silence : Cond.selects RX8 yX8_silence yX8_silence ∈ lw_ok := lw_i4 100 rfl rfl
theorem wK_X8_silence : Cond.code yX8_silence cX8_silence 6 none ∈ lw_ok := lw_i4 101 rfl rfl
theorem wM_X8_140 : Cond.methodLink RX8 140 yX7_vanish ∈ lw_ok := lw_i4 102 rfl rfl
theorem wV_X7_vanish : Cond.instanceMethod yX7_vanish ∈ lw_ok := lw_i4 103 rfl rfl
theorem wL_X7_vanish : Cond.selects RX7 yX7_vanish yX7_vanish ∈ lw_ok := lw_i4 104 rfl rfl
theorem wK_X7_vanish : Cond.code yX7_vanish cX7_vanish 1 none ∈ lw_ok := lw_i4 105 rfl rfl
theorem wM_X11_148 : Cond.methodLink RX11 148 yX8_lookAtAll ∈ lw_ok := lw_i4 106 rfl rfl
theorem wV_X8_lookAtAll : Cond.instanceMethod yX8_lookAtAll ∈ lw_ok := lw_i4 107 rfl rfl
theorem wL_X8_lookAtAll : Cond.selects RX8 yX8_lookAtAll yX8_lookAtAll ∈ lw_ok := lw_i4 108 rfl rfl
theorem wK_X8_lookAtAll : Cond.code yX8_lookAtAll cX8_lookAtAll 3 none ∈ lw_ok := lw_i4 109 rfl rfl
theorem wM_X8_92 : Cond.methodLink RX8 92 yX8_look ∈ lw_ok := lw_i4 110 rfl rfl
theorem wV_X8_look : Cond.instanceMethod yX8_look ∈ lw_ok := lw_i4 111 rfl rfl
theorem wL_X8_look : Cond.selects RX8 yX8_look yX8_look ∈ lw_ok := lw_i4 112 rfl rfl
theorem wK_X8_look : Cond.code yX8_look cX8_look 8 none ∈ lw_ok := lw_i4 113 rfl rfl
theorem wG_X8_166 : Cond.constant RX8 166 (-99999999) ∈ lw_ok := lw_i4 114 rfl rfl
theorem wM_X8_172 : Cond.methodLink RX8 172 yX7_begin ∈ lw_ok := lw_i4 115 rfl rfl
theorem wV_X7_begin : Cond.instanceMethod yX7_begin ∈ lw_ok := lw_i4 116 rfl rfl
theorem wL_X7_begin : Cond.selects RX7 yX7_begin yX7_begin ∈ lw_ok := lw_i4 117 rfl rfl
theorem wK_X7_begin : Cond.code yX7_begin cX7_begin 3 none ∈ lw_ok := lw_i4 118 rfl rfl
theorem wM_X8_175 : Cond.methodLink RX8 175 yX8_gather ∈ lw_ok := lw_i4 119 rfl rfl
theorem wV_X8_gather : Cond.instanceMethod yX8_gather ∈ lw_ok := lw_i4 121 rfl rfl
theorem wK_X8_gather : Cond.code yX8_gather cX8_gather 8 none ∈ lw_ok := lw_i4 122 rfl rfl
theorem wM_X8_156 : Cond.methodLink RX8 156 yX9_sideOf ∈ lw_ok := lw_i4 123 rfl rfl
theorem wV_X9_sideOf : Cond.instanceMethod yX9_sideOf ∈ lw_ok := lw_i4 124 rfl rfl
theorem wL_X9_sideOf : Cond.selects RX9 yX9_sideOf yX9_sideOf ∈ lw_ok := lw_i4 125 rfl rfl
theorem wK_X9_sideOf : Cond.code yX9_sideOf cX9_sideOf 2 (some .int) ∈ lw_ok := lw_i4 126 rfl rfl
theorem wM_X8_206 : Cond.methodLink RX8 206 yX7_passes ∈ lw_ok := lw_i4 127 rfl rfl
theorem wV_X7_passes : Cond.instanceMethod yX7_passes ∈ lw_ok := lw_i4 128 rfl rfl
theorem wL_X7_passes : Cond.selects RX7 yX7_passes yX7_passes ∈ lw_ok := lw_i4 129 rfl rfl
theorem wK_X7_passes : Cond.code yX7_passes cX7_passes 3 (some .boolean) ∈ lw_ok := lw_i4 130 rfl rfl
theorem wM_X8_181 : Cond.methodLink RX8 181 yX8_pickGrouped ∈ lw_ok := lw_i4 131 rfl rfl
theorem wV_X8_pickGrouped : Cond.instanceMethod yX8_pickGrouped ∈ lw_ok := lw_i4 133 rfl rfl
theorem wK_X8_pickGrouped : Cond.code yX8_pickGrouped cX8_pickGrouped 4 (some .int) ∈ lw_ok := lw_i4 134 rfl rfl
theorem wM_X8_226 : Cond.methodLink RX8 226 yX8_isFirstOfGroup ∈ lw_ok := lw_i4 135 rfl rfl
theorem wV_X8_isFirstOfGroup : Cond.instanceMethod yX8_isFirstOfGroup ∈ lw_ok := lw_i4 137 rfl rfl
theorem wK_X8_isFirstOfGroup : Cond.code yX8_isFirstOfGroup cX8_isFirstOfGroup 3 (some .boolean) ∈ lw_ok := lw_i4 138 rfl rfl
theorem wM_X8_239 : Cond.methodLink RX8 239 yX7_sharesFirst ∈ lw_ok := lw_i4 139 rfl rfl
theorem wV_X7_sharesFirst : Cond.instanceMethod yX7_sharesFirst ∈ lw_ok := lw_i4 140 rfl rfl
theorem wL_X7_sharesFirst : Cond.selects RX7 yX7_sharesFirst yX7_sharesFirst ∈ lw_ok := lw_i4 141 rfl rfl
theorem wK_X7_sharesFirst : Cond.code yX7_sharesFirst cX7_sharesFirst 2 (some .boolean) ∈ lw_ok := lw_i4 142 rfl rfl
theorem wM_X8_229 : Cond.methodLink RX8 229 yX8_bestOfGroup ∈ lw_ok := lw_i4 143 rfl rfl
theorem wV_X8_bestOfGroup : Cond.instanceMethod yX8_bestOfGroup ∈ lw_ok := lw_i4 145 rfl rfl
theorem wK_X8_bestOfGroup : Cond.code yX8_bestOfGroup cX8_bestOfGroup 5 (some .int) ∈ lw_ok := lw_i4 146 rfl rfl
theorem wM_X8_235 : Cond.methodLink RX8 235 yX0_prefers ∈ lw_ok := lw_i4 147 rfl rfl
theorem wV_X0_prefers : Cond.instanceMethod yX0_prefers ∈ lw_ok := lw_i4 148 rfl rfl
theorem wL_X0_prefers : Cond.selects RX0 yX0_prefers yX0_prefers ∈ lw_ok := lw_i4 149 rfl rfl
theorem wK_X0_prefers : Cond.code yX0_prefers cX0_prefers 5 (some .boolean) ∈ lw_ok := lw_i4 150 rfl rfl
theorem wM_X0_41 : Cond.methodLink RX0 41 yX0_compareAt ∈ lw_ok := lw_i4 151 rfl rfl
theorem wS_X0_compareAt : Cond.static yX0_compareAt ∈ lw_ok := lw_i4 152 rfl rfl
theorem wK_X0_compareAt : Cond.code yX0_compareAt cX0_compareAt 3 (some .int) ∈ lw_ok := lw_i4 153 rfl rfl
theorem wM_X0_51 : Cond.methodLink RX0 51 ⟨"java/lang/Integer", "compare", "(II)I"⟩ ∈ lw_ok := lw_i4 154 rfl rfl
theorem wM_X0_63 : Cond.methodLink RX0 63 yX7_sharesFirst ∈ lw_ok := lw_i4 155 rfl rfl
theorem wM_X8_232 : Cond.methodLink RX8 232 yX8_insertWinner ∈ lw_ok := lw_i4 156 rfl rfl
theorem wV_X8_insertWinner : Cond.instanceMethod yX8_insertWinner ∈ lw_ok := lw_i4 158 rfl rfl
theorem wK_X8_insertWinner : Cond.code yX8_insertWinner cX8_insertWinner 4 none ∈ lw_ok := lw_i4 159 rfl rfl
theorem wM_X8_242 : Cond.methodLink RX8 242 yX8_groupOrder ∈ lw_ok := lw_i4 160 rfl rfl
theorem wV_X8_groupOrder : Cond.instanceMethod yX8_groupOrder ∈ lw_ok := lw_i4 162 rfl rfl
theorem wK_X8_groupOrder : Cond.code yX8_groupOrder cX8_groupOrder 2 (some .long) ∈ lw_ok := lw_i4 163 rfl rfl
theorem wH_X8_249 : Cond.constantLong RX8 249 (-1) ∈ lw_ok := lw_i4 164 rfl rfl
theorem wH_X8_254 : Cond.constantLong RX8 254 (4294967295) ∈ lw_ok := lw_i4 165 rfl rfl
theorem wM_X8_222 : Cond.methodLink RX8 222 yX8_lastStanding ∈ lw_ok := lw_i4 166 rfl rfl
theorem wV_X8_lastStanding : Cond.instanceMethod yX8_lastStanding ∈ lw_ok := lw_i4 168 rfl rfl
theorem wK_X8_lastStanding : Cond.code yX8_lastStanding cX8_lastStanding 5 (some .int) ∈ lw_ok := lw_i4 169 rfl rfl
theorem wM_X8_185 : Cond.methodLink RX8 185 yX8_pickPlain ∈ lw_ok := lw_i4 170 rfl rfl
theorem wV_X8_pickPlain : Cond.instanceMethod yX8_pickPlain ∈ lw_ok := lw_i4 172 rfl rfl
theorem wK_X8_pickPlain : Cond.code yX8_pickPlain cX8_pickPlain 3 (some .int) ∈ lw_ok := lw_i4 173 rfl rfl
theorem wM_DomainHouseLaw_47 : Cond.methodLink "DomainHouseLaw" 47 yX11_cone ∈ lw_ok := lw_i4 174 rfl rfl
theorem wV_X11_cone : Cond.instanceMethod yX11_cone ∈ lw_ok := lw_i4 175 rfl rfl
theorem wL_X11_cone : Cond.selects RX11 yX11_cone yX11_cone ∈ lw_ok := lw_i4 176 rfl rfl
theorem wK_X11_cone : Cond.code yX11_cone cX11_cone 4 (some .int) ∈ lw_ok := lw_i4 177 rfl rfl
theorem wM_X11_154 : Cond.methodLink RX11 154 yX10_coneOf ∈ lw_ok := lw_i4 178 rfl rfl
theorem wV_X10_coneOf : Cond.instanceMethod yX10_coneOf ∈ lw_ok := lw_i4 179 rfl rfl
theorem wL_X10_coneOf : Cond.selects RX10 yX10_coneOf yX10_coneOf ∈ lw_ok := lw_i4 180 rfl rfl
theorem wK_X10_coneOf : Cond.code yX10_coneOf cX10_coneOf 6 (some .int) ∈ lw_ok := lw_i4 181 rfl rfl
theorem wM_X11_157 : Cond.methodLink RX11 157 ⟨"java/lang/Integer", "bitCount", "(I)I"⟩ ∈ lw_ok := lw_i4 182 rfl rfl
theorem wS_Integer_bitCount__I_I : Cond.static ⟨"java/lang/Integer", "bitCount", "(I)I"⟩ ∈ lw_ok := lw_i4 183 rfl rfl
theorem wG_Integer_265 : Cond.constant "java/lang/Integer" 265 (1431655765) ∈ lw_ok := lw_i4 185 rfl rfl
theorem wG_Integer_266 : Cond.constant "java/lang/Integer" 266 (858993459) ∈ lw_ok := lw_i4 186 rfl rfl
theorem wG_Integer_267 : Cond.constant "java/lang/Integer" 267 (252645135) ∈ lw_ok := lw_i4 187 rfl rfl
theorem wM_DomainHouseLaw_51 : Cond.methodLink "DomainHouseLaw" 51 yX11_ring ∈ lw_ok := lw_i4 188 rfl rfl
theorem wV_X11_ring : Cond.instanceMethod yX11_ring ∈ lw_ok := lw_i4 189 rfl rfl
theorem wL_X11_ring : Cond.selects RX11 yX11_ring yX11_ring ∈ lw_ok := lw_i4 190 rfl rfl
theorem wK_X11_ring : Cond.code yX11_ring cX11_ring 3 (some .int) ∈ lw_ok := lw_i4 191 rfl rfl
theorem wM_X11_162 : Cond.methodLink RX11 162 yX10_findRing ∈ lw_ok := lw_i4 192 rfl rfl
theorem wV_X10_findRing : Cond.instanceMethod yX10_findRing ∈ lw_ok := lw_i4 193 rfl rfl
theorem wL_X10_findRing : Cond.selects RX10 yX10_findRing yX10_findRing ∈ lw_ok := lw_i4 194 rfl rfl
theorem wK_X10_findRing : Cond.code yX10_findRing cX10_findRing 3 (some .int) ∈ lw_ok := lw_i4 195 rfl rfl
theorem wM_X10_87 : Cond.methodLink RX10 87 yX10_shortestRing ∈ lw_ok := lw_i4 196 rfl rfl
theorem wV_X10_shortestRing : Cond.instanceMethod yX10_shortestRing ∈ lw_ok := lw_i4 198 rfl rfl
theorem wK_X10_shortestRing : Cond.code yX10_shortestRing cX10_shortestRing 7 (some .int) ∈ lw_ok := lw_i4 199 rfl rfl
theorem wM_X10_94 : Cond.methodLink RX10 94 ⟨"java/util/Arrays", "fill", "([II)V"⟩ ∈ lw_ok := lw_i4 200 rfl rfl
theorem wM_X10_100 : Cond.methodLink RX10 100 ⟨"java/lang/Math", "min", "(II)I"⟩ ∈ lw_ok := lw_i4 201 rfl rfl
theorem wS_Math_min__II_I : Cond.static ⟨"java/lang/Math", "min", "(II)I"⟩ ∈ lw_ok := lw_i4 202 rfl rfl
theorem wM_X10_90 : Cond.methodLink RX10 90 yX10_fillRing ∈ lw_ok := lw_i4 204 rfl rfl
theorem wV_X10_fillRing : Cond.instanceMethod yX10_fillRing ∈ lw_ok := lw_i4 206 rfl rfl
theorem wK_X10_fillRing : Cond.code yX10_fillRing cX10_fillRing 4 none ∈ lw_ok := lw_i4 207 rfl rfl
theorem wM_X10_106 : Cond.methodLink RX10 106 yX10_leastCustomer ∈ lw_ok := lw_i4 208 rfl rfl
theorem wV_X10_leastCustomer : Cond.instanceMethod yX10_leastCustomer ∈ lw_ok := lw_i4 210 rfl rfl
theorem wK_X10_leastCustomer : Cond.code yX10_leastCustomer cX10_leastCustomer 6 (some .int) ∈ lw_ok := lw_i4 211 rfl rfl
theorem wG_X11_165 : Cond.constant RX11 165 (-99999999) ∈ lw_ok := lw_i4 212 rfl rfl
theorem wM_DomainHouseLaw_55 : Cond.methodLink "DomainHouseLaw" 55 yX11_walk ∈ lw_ok := lw_i4 213 rfl rfl
theorem wV_X11_walk : Cond.instanceMethod yX11_walk ∈ lw_ok := lw_i4 214 rfl rfl
theorem wL_X11_walk : Cond.selects RX11 yX11_walk yX11_walk ∈ lw_ok := lw_i4 215 rfl rfl
theorem wK_X11_walk : Cond.code yX11_walk cX11_walk 2 (some .int) ∈ lw_ok := lw_i4 216 rfl rfl
theorem wM_DomainHouseLaw_59 : Cond.methodLink "DomainHouseLaw" 59 yX11_letWay ∈ lw_ok := lw_i4 217 rfl rfl
theorem wV_X11_letWay : Cond.instanceMethod yX11_letWay ∈ lw_ok := lw_i4 218 rfl rfl
theorem wL_X11_letWay : Cond.selects RX11 yX11_letWay yX11_letWay ∈ lw_ok := lw_i4 219 rfl rfl
theorem wK_X11_letWay : Cond.code yX11_letWay cX11_letWay 1 (some .int) ∈ lw_ok := lw_i4 220 rfl rfl
theorem wM_X11_172 : Cond.methodLink RX11 172 yX10_firstWrongStep ∈ lw_ok := lw_i4 221 rfl rfl
theorem wV_X10_firstWrongStep : Cond.instanceMethod yX10_firstWrongStep ∈ lw_ok := lw_i4 222 rfl rfl
theorem wL_X10_firstWrongStep : Cond.selects RX10 yX10_firstWrongStep yX10_firstWrongStep ∈ lw_ok := lw_i4 223 rfl rfl
theorem wK_X10_firstWrongStep : Cond.code yX10_firstWrongStep cX10_firstWrongStep 8 (some .int) ∈ lw_ok := lw_i4 224 rfl rfl
theorem wM_X10_109 : Cond.methodLink RX10 109 yX10_tieBetween ∈ lw_ok := lw_i4 225 rfl rfl
theorem wM_X10_112 : Cond.methodLink RX10 112 yX9_sideOf ∈ lw_ok := lw_i4 226 rfl rfl
theorem wM_X10_115 : Cond.methodLink RX10 115 yX9_partnerRole ∈ lw_ok := lw_i4 227 rfl rfl
theorem wM_DomainHouseLaw_63 : Cond.methodLink "DomainHouseLaw" 63 yX11_today ∈ lw_ok := lw_i4 228 rfl rfl
theorem wV_X11_today : Cond.instanceMethod yX11_today ∈ lw_ok := lw_i4 229 rfl rfl
theorem wL_X11_today : Cond.selects RX11 yX11_today yX11_today ∈ lw_ok := lw_i4 230 rfl rfl
theorem wK_X11_today : Cond.code yX11_today cX11_today 3 (some .int) ∈ lw_ok := lw_i4 231 rfl rfl
theorem wM_X11_179 : Cond.methodLink RX11 179 yX8_tellAllAnew ∈ lw_ok := lw_i4 232 rfl rfl
theorem wV_X8_tellAllAnew : Cond.instanceMethod yX8_tellAllAnew ∈ lw_ok := lw_i4 233 rfl rfl
theorem wL_X8_tellAllAnew : Cond.selects RX8 yX8_tellAllAnew yX8_tellAllAnew ∈ lw_ok := lw_i4 234 rfl rfl
theorem wK_X8_tellAllAnew : Cond.code yX8_tellAllAnew cX8_tellAllAnew 4 none ∈ lw_ok := lw_i4 235 rfl rfl
theorem wM_X8_159 : Cond.methodLink RX8 159 yX8_sayAll ∈ lw_ok := lw_i4 236 rfl rfl
theorem wM_DomainHouseLaw_67 : Cond.methodLink "DomainHouseLaw" 67 yX11_right ∈ lw_ok := lw_i4 237 rfl rfl
theorem wV_X11_right : Cond.instanceMethod yX11_right ∈ lw_ok := lw_i4 238 rfl rfl
theorem wL_X11_right : Cond.selects RX11 yX11_right yX11_right ∈ lw_ok := lw_i4 239 rfl rfl
theorem wK_X11_right : Cond.code yX11_right cX11_right 8 (some .int) ∈ lw_ok := lw_i5 0 rfl rfl
theorem wM_X11_182 : Cond.methodLink RX11 182 yX11_isPrefix ∈ lw_ok := lw_i5 1 rfl rfl
theorem wV_X11_isPrefix : Cond.instanceMethod yX11_isPrefix ∈ lw_ok := lw_i5 3 rfl rfl
theorem wK_X11_isPrefix : Cond.code yX11_isPrefix cX11_isPrefix 2 (some .boolean) ∈ lw_ok := lw_i5 4 rfl rfl
theorem wM_X11_191 : Cond.methodLink RX11 191 yX10_addRight ∈ lw_ok := lw_i5 5 rfl rfl
theorem wV_X10_addRight : Cond.instanceMethod yX10_addRight ∈ lw_ok := lw_i5 6 rfl rfl
theorem wL_X10_addRight : Cond.selects RX10 yX10_addRight yX10_addRight ∈ lw_ok := lw_i5 7 rfl rfl
theorem wK_X10_addRight : Cond.code yX10_addRight cX10_addRight 7 (some .int) ∈ lw_ok := lw_i5 8 rfl rfl
theorem wM_DomainHouseLaw_72 : Cond.methodLink "DomainHouseLaw" 72 yX11_strike ∈ lw_ok := lw_i5 9 rfl rfl
theorem wV_X11_strike : Cond.instanceMethod yX11_strike ∈ lw_ok := lw_i5 10 rfl rfl
theorem wL_X11_strike : Cond.selects RX11 yX11_strike yX11_strike ∈ lw_ok := lw_i5 11 rfl rfl
theorem wK_X11_strike : Cond.code yX11_strike cX11_strike 3 (some .int) ∈ lw_ok := lw_i5 12 rfl rfl
theorem wM_DomainHouseLaw_76 : Cond.methodLink "DomainHouseLaw" 76 yX11_verdict ∈ lw_ok := lw_i5 13 rfl rfl
theorem wV_X11_verdict : Cond.instanceMethod yX11_verdict ∈ lw_ok := lw_i5 14 rfl rfl
theorem wL_X11_verdict : Cond.selects RX11 yX11_verdict yX11_verdict ∈ lw_ok := lw_i5 15 rfl rfl
theorem wK_X11_verdict : Cond.code yX11_verdict cX11_verdict 5 (some .int) ∈ lw_ok := lw_i5 16 rfl rfl
theorem wM_X11_201 : Cond.methodLink RX11 201 yX10_verdictOn ∈ lw_ok := lw_i5 17 rfl rfl
theorem wM_DomainHouseLaw_81 : Cond.methodLink "DomainHouseLaw" 81 yX11_policy ∈ lw_ok := lw_i5 18 rfl rfl
theorem wV_X11_policy : Cond.instanceMethod yX11_policy ∈ lw_ok := lw_i5 19 rfl rfl
theorem wL_X11_policy : Cond.selects RX11 yX11_policy yX11_policy ∈ lw_ok := lw_i5 20 rfl rfl
theorem wK_X11_policy : Cond.code yX11_policy cX11_policy 1 (some .int) ∈ lw_ok := lw_i5 21 rfl rfl
theorem wM_X11_208 : Cond.methodLink RX11 208 yX6_read ∈ lw_ok := lw_i5 22 rfl rfl
theorem wV_X6_read : Cond.instanceMethod yX6_read ∈ lw_ok := lw_i5 23 rfl rfl
theorem wL_X6_read : Cond.selects RX6 yX6_read yX6_read ∈ lw_ok := lw_i5 24 rfl rfl
theorem wK_X6_read : Cond.code yX6_read cX6_read 5 none ∈ lw_ok := lw_i5 25 rfl rfl
theorem wM_X6_59 : Cond.methodLink RX6 59 yX6_split ∈ lw_ok := lw_i5 26 rfl rfl
theorem wV_X6_split : Cond.instanceMethod yX6_split ∈ lw_ok := lw_i5 28 rfl rfl
theorem wK_X6_split : Cond.code yX6_split cX6_split 6 none ∈ lw_ok := lw_i5 29 rfl rfl
theorem wM_X6_86 : Cond.methodLink RX6 86 yX6_isLetter ∈ lw_ok := lw_i5 30 rfl rfl
theorem wS_X6_isLetter : Cond.static yX6_isLetter ∈ lw_ok := lw_i5 31 rfl rfl
theorem wK_X6_isLetter : Cond.code yX6_isLetter cX6_isLetter 1 (some .boolean) ∈ lw_ok := lw_i5 32 rfl rfl
theorem wM_X6_90 : Cond.methodLink RX6 90 yX6_wordAt ∈ lw_ok := lw_i5 33 rfl rfl
theorem wS_X6_wordAt : Cond.static yX6_wordAt ∈ lw_ok := lw_i5 34 rfl rfl
theorem wK_X6_wordAt : Cond.code yX6_wordAt cX6_wordAt 8 (some .int) ∈ lw_ok := lw_i5 35 rfl rfl
theorem wM_X6_107 : Cond.methodLink RX6 107 ⟨"java/lang/String", "length", "()I"⟩ ∈ lw_ok := lw_i5 37 rfl rfl
theorem wV_String_length___I : Cond.instanceMethod ⟨"java/lang/String", "length", "()I"⟩ ∈ lw_ok := lw_i5 38 rfl rfl
theorem wL_String_length___I : Cond.selects "java/lang/String" ⟨"java/lang/String", "length", "()I"⟩ ⟨"java/lang/String", "length", "()I"⟩ ∈ lw_ok := lw_i5 39 rfl rfl
theorem wM_String_335 : Cond.methodLink "java/lang/String" 335 ⟨"java/lang/String", "coder", "()B"⟩ ∈ lw_ok := lw_i5 41 rfl rfl
theorem wV_String_coder___B : Cond.instanceMethod ⟨"java/lang/String", "coder", "()B"⟩ ∈ lw_ok := lw_i5 42 rfl rfl
theorem wL_String_coder___B : Cond.selects "java/lang/String" ⟨"java/lang/String", "coder", "()B"⟩ ⟨"java/lang/String", "coder", "()B"⟩ ∈ lw_ok := lw_i5 43 rfl rfl
theorem wM_X6_113 : Cond.methodLink RX6 113 ⟨"java/lang/String", "charAt", "(I)C"⟩ ∈ lw_ok := lw_i5 47 rfl rfl
theorem wV_String_charAt__I_C : Cond.instanceMethod ⟨"java/lang/String", "charAt", "(I)C"⟩ ∈ lw_ok := lw_i5 48 rfl rfl
theorem wL_String_charAt__I_C : Cond.selects "java/lang/String" ⟨"java/lang/String", "charAt", "(I)C"⟩ ⟨"java/lang/String", "charAt", "(I)C"⟩ ∈ lw_ok := lw_i5 49 rfl rfl
theorem wM_String_492 : Cond.methodLink "java/lang/String" 492 ⟨"java/lang/String", "isLatin1", "()Z"⟩ ∈ lw_ok := lw_i5 51 rfl rfl
theorem wV_String_isLatin1___Z : Cond.instanceMethod ⟨"java/lang/String", "isLatin1", "()Z"⟩ ∈ lw_ok := lw_i5 52 rfl rfl
theorem wL_String_isLatin1___Z : Cond.selects "java/lang/String" ⟨"java/lang/String", "isLatin1", "()Z"⟩ ⟨"java/lang/String", "isLatin1", "()Z"⟩ ∈ lw_ok := lw_i5 53 rfl rfl
theorem wM_String_495 : Cond.methodLink "java/lang/String" 495 ⟨"java/lang/StringLatin1", "charAt", "([BI)C"⟩ ∈ lw_ok := lw_i5 55 rfl rfl
theorem wS_StringLatin1_charAt___BI_C : Cond.static ⟨"java/lang/StringLatin1", "charAt", "([BI)C"⟩ ∈ lw_ok := lw_i5 56 rfl rfl
theorem wM_StringLatin1_9 : Cond.methodLink "java/lang/StringLatin1" 9 ⟨"java/lang/String", "checkIndex", "(II)V"⟩ ∈ lw_ok := lw_i5 58 rfl rfl
theorem wS_String_checkIndex__II_V : Cond.static ⟨"java/lang/String", "checkIndex", "(II)V"⟩ ∈ lw_ok := lw_i5 59 rfl rfl
theorem wM_String_1059 : Cond.methodLink "java/lang/String" 1059 ⟨"jdk/internal/util/Preconditions", "checkIndex", "(IILjava/util/function/BiFunction;)I"⟩ ∈ lw_ok := lw_i5 63 rfl rfl
theorem wS_Preconditions_checkIndex__IILjava_util_function_BiFunction__I : Cond.static ⟨"jdk/internal/util/Preconditions", "checkIndex", "(IILjava/util/function/BiFunction;)I"⟩ ∈ lw_ok := lw_i5 64 rfl rfl
theorem wM_String_498 : Cond.methodLink "java/lang/String" 498 ⟨"java/lang/StringUTF16", "charAt", "([BI)C"⟩ ∈ lw_ok := lw_i5 66 rfl rfl
theorem wS_StringUTF16_charAt___BI_C : Cond.static ⟨"java/lang/StringUTF16", "charAt", "([BI)C"⟩ ∈ lw_ok := lw_i5 67 rfl rfl
theorem wM_StringUTF16_67 : Cond.methodLink "java/lang/StringUTF16" 67 ⟨"java/lang/StringUTF16", "checkIndex", "(I[B)V"⟩ ∈ lw_ok := lw_i5 69 rfl rfl
theorem wS_StringUTF16_checkIndex__I_B_V : Cond.static ⟨"java/lang/StringUTF16", "checkIndex", "(I[B)V"⟩ ∈ lw_ok := lw_i5 70 rfl rfl
theorem wM_StringUTF16_48 : Cond.methodLink "java/lang/StringUTF16" 48 ⟨"java/lang/StringUTF16", "length", "([B)I"⟩ ∈ lw_ok := lw_i5 72 rfl rfl
theorem wS_StringUTF16_length___B_I : Cond.static ⟨"java/lang/StringUTF16", "length", "([B)I"⟩ ∈ lw_ok := lw_i5 73 rfl rfl
theorem wM_StringUTF16_414 : Cond.methodLink "java/lang/StringUTF16" 414 ⟨"java/lang/String", "checkIndex", "(II)V"⟩ ∈ lw_ok := lw_i5 75 rfl rfl
theorem wM_StringUTF16_71 : Cond.methodLink "java/lang/StringUTF16" 71 ⟨"java/lang/StringUTF16", "getChar", "([BI)C"⟩ ∈ lw_ok := lw_i5 76 rfl rfl
theorem wS_StringUTF16_getChar___BI_C : Cond.static ⟨"java/lang/StringUTF16", "getChar", "([BI)C"⟩ ∈ lw_ok := lw_i5 77 rfl rfl
theorem wM_X6_94 : Cond.methodLink RX6 94 yX6_putToken ∈ lw_ok := lw_i5 85 rfl rfl
theorem wV_X6_putToken : Cond.instanceMethod yX6_putToken ∈ lw_ok := lw_i5 87 rfl rfl
theorem wK_X6_putToken : Cond.code yX6_putToken cX6_putToken 4 none ∈ lw_ok := lw_i5 88 rfl rfl
theorem wM_X6_98 : Cond.methodLink RX6 98 yX6_isFigure ∈ lw_ok := lw_i5 89 rfl rfl
theorem wS_X6_isFigure : Cond.static yX6_isFigure ∈ lw_ok := lw_i5 90 rfl rfl
theorem wK_X6_isFigure : Cond.code yX6_isFigure cX6_isFigure 1 (some .boolean) ∈ lw_ok := lw_i5 91 rfl rfl
theorem wM_X6_101 : Cond.methodLink RX6 101 yX6_putNumber ∈ lw_ok := lw_i5 92 rfl rfl
theorem wV_X6_putNumber : Cond.instanceMethod yX6_putNumber ∈ lw_ok := lw_i5 94 rfl rfl
theorem wK_X6_putNumber : Cond.code yX6_putNumber cX6_putNumber 6 none ∈ lw_ok := lw_i5 95 rfl rfl
theorem wM_X6_66 : Cond.methodLink RX6 66 yX6_readRow ∈ lw_ok := lw_i5 96 rfl rfl
theorem wV_X6_readRow : Cond.instanceMethod yX6_readRow ∈ lw_ok := lw_i5 98 rfl rfl
theorem wK_X6_readRow : Cond.code yX6_readRow cX6_readRow 5 none ∈ lw_ok := lw_i5 99 rfl rfl
theorem wM_X6_127 : Cond.methodLink RX6 127 yX6_isAct ∈ lw_ok := lw_i5 100 rfl rfl
theorem wS_X6_isAct : Cond.static yX6_isAct ∈ lw_ok := lw_i5 101 rfl rfl
theorem wK_X6_isAct : Cond.code yX6_isAct cX6_isAct 1 (some .boolean) ∈ lw_ok := lw_i5 102 rfl rfl
theorem wM_X6_123 : Cond.methodLink RX6 123 yX6_fail ∈ lw_ok := lw_i5 103 rfl rfl
theorem wV_X6_fail : Cond.instanceMethod yX6_fail ∈ lw_ok := lw_i5 105 rfl rfl
theorem wK_X6_fail : Cond.code yX6_fail cX6_fail 2 none ∈ lw_ok := lw_i5 106 rfl rfl
theorem wM_X6_130 : Cond.methodLink RX6 130 yX6_put ∈ lw_ok := lw_i5 107 rfl rfl
theorem wV_X6_put : Cond.instanceMethod yX6_put ∈ lw_ok := lw_i5 109 rfl rfl
theorem wK_X6_put : Cond.code yX6_put cX6_put 2 none ∈ lw_ok := lw_i5 110 rfl rfl
theorem wM_X6_120 : Cond.methodLink RX6 120 yX6_take ∈ lw_ok := lw_i5 111 rfl rfl
theorem wV_X6_take : Cond.instanceMethod yX6_take ∈ lw_ok := lw_i5 113 rfl rfl
theorem wK_X6_take : Cond.code yX6_take cX6_take 2 (some .boolean) ∈ lw_ok := lw_i5 114 rfl rfl
theorem wM_X6_117 : Cond.methodLink RX6 117 yX6_step ∈ lw_ok := lw_i5 115 rfl rfl
theorem wV_X6_step : Cond.instanceMethod yX6_step ∈ lw_ok := lw_i5 117 rfl rfl
theorem wK_X6_step : Cond.code yX6_step cX6_step 1 none ∈ lw_ok := lw_i5 118 rfl rfl
theorem wM_X6_133 : Cond.methodLink RX6 133 yX6_readTest ∈ lw_ok := lw_i5 119 rfl rfl
theorem wV_X6_readTest : Cond.instanceMethod yX6_readTest ∈ lw_ok := lw_i5 121 rfl rfl
theorem wK_X6_readTest : Cond.code yX6_readTest cX6_readTest 3 none ∈ lw_ok := lw_i5 122 rfl rfl
theorem wM_X6_148 : Cond.methodLink RX6 148 yX6_isTest ∈ lw_ok := lw_i5 123 rfl rfl
theorem wS_X6_isTest : Cond.static yX6_isTest ∈ lw_ok := lw_i5 124 rfl rfl
theorem wK_X6_isTest : Cond.code yX6_isTest cX6_isTest 1 (some .boolean) ∈ lw_ok := lw_i5 125 rfl rfl
theorem wM_X6_151 : Cond.methodLink RX6 151 yX6_readHeldIn ∈ lw_ok := lw_i5 126 rfl rfl
theorem wV_X6_readHeldIn : Cond.instanceMethod yX6_readHeldIn ∈ lw_ok := lw_i5 128 rfl rfl
theorem wK_X6_readHeldIn : Cond.code yX6_readHeldIn cX6_readHeldIn 6 none ∈ lw_ok := lw_i5 129 rfl rfl
theorem wM_X6_143 : Cond.methodLink RX6 143 yX6_number ∈ lw_ok := lw_i5 130 rfl rfl
theorem wV_X6_number : Cond.instanceMethod yX6_number ∈ lw_ok := lw_i5 132 rfl rfl
theorem wK_X6_number : Cond.code yX6_number cX6_number 4 (some .int) ∈ lw_ok := lw_i5 133 rfl rfl
theorem wM_X6_136 : Cond.methodLink RX6 136 yX6_expect ∈ lw_ok := lw_i5 134 rfl rfl
theorem wV_X6_expect : Cond.instanceMethod yX6_expect ∈ lw_ok := lw_i5 136 rfl rfl
theorem wK_X6_expect : Cond.code yX6_expect cX6_expect 2 none ∈ lw_ok := lw_i5 137 rfl rfl
theorem wM_X6_171 : Cond.methodLink RX6 171 yX10_maskOf ∈ lw_ok := lw_i5 138 rfl rfl
theorem wM_X6_157 : Cond.methodLink RX6 157 yX6_putTest ∈ lw_ok := lw_i5 139 rfl rfl
theorem wV_X6_putTest : Cond.instanceMethod yX6_putTest ∈ lw_ok := lw_i5 141 rfl rfl
theorem wK_X6_putTest : Cond.code yX6_putTest cX6_putTest 6 none ∈ lw_ok := lw_i5 142 rfl rfl
theorem wM_X6_154 : Cond.methodLink RX6 154 yX6_readWay ∈ lw_ok := lw_i5 143 rfl rfl
theorem wV_X6_readWay : Cond.instanceMethod yX6_readWay ∈ lw_ok := lw_i5 145 rfl rfl
theorem wK_X6_readWay : Cond.code yX6_readWay cX6_readWay 2 none ∈ lw_ok := lw_i5 146 rfl rfl
theorem wM_X6_176 : Cond.methodLink RX6 176 yX6_readBranches ∈ lw_ok := lw_i5 147 rfl rfl
theorem wV_X6_readBranches : Cond.instanceMethod yX6_readBranches ∈ lw_ok := lw_i5 149 rfl rfl
theorem wK_X6_readBranches : Cond.code yX6_readBranches cX6_readBranches 15 none ∈ lw_ok := lw_i5 150 rfl rfl
theorem wM_X6_190 : Cond.methodLink RX6 190 yX6_beginsPiece ∈ lw_ok := lw_i5 151 rfl rfl
theorem wS_X6_beginsPiece : Cond.static yX6_beginsPiece ∈ lw_ok := lw_i5 152 rfl rfl
theorem wK_X6_beginsPiece : Cond.code yX6_beginsPiece cX6_beginsPiece 1 (some .boolean) ∈ lw_ok := lw_i5 153 rfl rfl
theorem wM_X6_193 : Cond.methodLink RX6 193 yX6_readGroup ∈ lw_ok := lw_i5 154 rfl rfl
theorem wV_X6_readGroup : Cond.instanceMethod yX6_readGroup ∈ lw_ok := lw_i5 156 rfl rfl
theorem wK_X6_readGroup : Cond.code yX6_readGroup cX6_readGroup 2 none ∈ lw_ok := lw_i5 157 rfl rfl
theorem wM_X6_196 : Cond.methodLink RX6 196 yX6_readPlace ∈ lw_ok := lw_i5 158 rfl rfl
theorem wV_X6_readPlace : Cond.instanceMethod yX6_readPlace ∈ lw_ok := lw_i5 160 rfl rfl
theorem wK_X6_readPlace : Cond.code yX6_readPlace cX6_readPlace 2 none ∈ lw_ok := lw_i5 161 rfl rfl
theorem wG_X6_147 : Cond.constant RX6 147 (1000000) ∈ lw_ok := lw_i5 162 rfl rfl
theorem wM_X6_199 : Cond.methodLink RX6 199 yX6_readRepeat ∈ lw_ok := lw_i5 163 rfl rfl
theorem wV_X6_readRepeat : Cond.instanceMethod yX6_readRepeat ∈ lw_ok := lw_i5 165 rfl rfl
theorem wK_X6_readRepeat : Cond.code yX6_readRepeat cX6_readRepeat 4 none ∈ lw_ok := lw_i5 166 rfl rfl
theorem wM_X6_202 : Cond.methodLink RX6 202 yX6_join ∈ lw_ok := lw_i5 167 rfl rfl
theorem wV_X6_join : Cond.instanceMethod yX6_join ∈ lw_ok := lw_i5 169 rfl rfl
theorem wK_X6_join : Cond.code yX6_join cX6_join 6 none ∈ lw_ok := lw_i5 170 rfl rfl
theorem wG_X6_142 : Cond.constant RX6 142 (65535) ∈ lw_ok := lw_i5 171 rfl rfl
theorem wM_X6_161 : Cond.methodLink RX6 161 yX6_oneOf ∈ lw_ok := lw_i5 172 rfl rfl
theorem wV_X6_oneOf : Cond.instanceMethod yX6_oneOf ∈ lw_ok := lw_i5 174 rfl rfl
theorem wK_X6_oneOf : Cond.code yX6_oneOf cX6_oneOf 4 (some .int) ∈ lw_ok := lw_i5 175 rfl rfl
theorem wM_X6_164 : Cond.methodLink RX6 164 yX6_verdictOf ∈ lw_ok := lw_i5 176 rfl rfl
theorem wS_X6_verdictOf : Cond.static yX6_verdictOf ∈ lw_ok := lw_i5 177 rfl rfl
theorem wK_X6_verdictOf : Cond.code yX6_verdictOf cX6_verdictOf 1 (some .int) ∈ lw_ok := lw_i5 178 rfl rfl
theorem wM_X6_168 : Cond.methodLink RX6 168 yX6_relation ∈ lw_ok := lw_i5 179 rfl rfl
theorem wV_X6_relation : Cond.instanceMethod yX6_relation ∈ lw_ok := lw_i5 181 rfl rfl
theorem wK_X6_relation : Cond.code yX6_relation cX6_relation 2 (some .int) ∈ lw_ok := lw_i5 182 rfl rfl
theorem wM_X6_139 : Cond.methodLink RX6 139 yX6_readAct ∈ lw_ok := lw_i5 183 rfl rfl
theorem wV_X6_readAct : Cond.instanceMethod yX6_readAct ∈ lw_ok := lw_i5 185 rfl rfl
theorem wK_X6_readAct : Cond.code yX6_readAct cX6_readAct 2 none ∈ lw_ok := lw_i5 186 rfl rfl
theorem wM_X11_218 : Cond.methodLink RX11 218 yX6_result ∈ lw_ok := lw_i5 187 rfl rfl
theorem wV_X6_result : Cond.instanceMethod yX6_result ∈ lw_ok := lw_i5 188 rfl rfl
theorem wL_X6_result : Cond.selects RX6 yX6_result yX6_result ∈ lw_ok := lw_i5 189 rfl rfl
theorem wK_X6_result : Cond.code yX6_result cX6_result 1 (some (.object "DomainHouse$Policy")) ∈ lw_ok := lw_i5 190 rfl rfl
theorem wC_X6_69 : Cond.classLink RX6 69 RX5 ∈ lw_ok := lw_i5 191 rfl rfl
theorem wN_X5 : Cond.instantiable RX5 6 ∈ lw_ok := lw_i5 192 rfl rfl
theorem wM_X6_71 : Cond.methodLink RX6 71 ⟨"java/util/Arrays", "copyOf", "([II)[I"⟩ ∈ lw_ok := lw_i5 193 rfl rfl
theorem wS_Arrays_copyOf___II__I : Cond.static ⟨"java/util/Arrays", "copyOf", "([II)[I"⟩ ∈ lw_ok := lw_i5 194 rfl rfl
theorem wM_Arrays_316 : Cond.methodLink "java/util/Arrays" 316 ⟨"[I", "clone", "()Ljava/lang/Object;"⟩ ∈ lw_ok := lw_i5 196 rfl rfl
theorem wV_Object_clone___Ljava_lang_Object_ : Cond.instanceMethod ⟨"java/lang/Object", "clone", "()Ljava/lang/Object;"⟩ ∈ lw_ok := lw_i5 199 rfl rfl
theorem wC_Arrays_317 : Cond.classLink "java/util/Arrays" 317 "[I" ∈ lw_ok := lw_i5 202 rfl rfl
theorem wM_Arrays_304 : Cond.methodLink "java/util/Arrays" 304 ⟨"java/lang/Math", "min", "(II)I"⟩ ∈ lw_ok := lw_i5 203 rfl rfl
theorem wM_Arrays_150 : Cond.methodLink "java/util/Arrays" 150 ⟨"java/lang/System", "arraycopy", "(Ljava/lang/Object;ILjava/lang/Object;II)V"⟩ ∈ lw_ok := lw_i5 204 rfl rfl
theorem wM_X6_77 : Cond.methodLink RX6 77 ⟨"java/util/Arrays", "copyOf", "([JI)[J"⟩ ∈ lw_ok := lw_i5 205 rfl rfl
theorem wS_Arrays_copyOf___JI__J : Cond.static ⟨"java/util/Arrays", "copyOf", "([JI)[J"⟩ ∈ lw_ok := lw_i5 206 rfl rfl
theorem wM_Arrays_319 : Cond.methodLink "java/util/Arrays" 319 ⟨"[J", "clone", "()Ljava/lang/Object;"⟩ ∈ lw_ok := lw_i5 208 rfl rfl
theorem wC_Arrays_320 : Cond.classLink "java/util/Arrays" 320 "[J" ∈ lw_ok := lw_i5 212 rfl rfl
theorem wM_X6_80 : Cond.methodLink RX6 80 yX5_init ∈ lw_ok := lw_i5 213 rfl rfl
theorem wV_X5_init : Cond.instanceMethod yX5_init ∈ lw_ok := lw_i5 214 rfl rfl
theorem wK_X5_init : Cond.code yX5_init cX5_init 7 none ∈ lw_ok := lw_i5 215 rfl rfl
theorem wM_X5_1 : Cond.methodLink RX5 1 objectInit ∈ lw_ok := lw_i5 216 rfl rfl
theorem wF_X5_7 : Cond.fieldLink RX5 7 RX5 "rows" "I" ∈ lw_ok := lw_i5 217 rfl rfl
theorem wF_X1_57 : Cond.fieldLink RX1 57 RX5 "rows" "I" ∈ lw_ok := lw_i5 218 rfl rfl
theorem wF_X5_13 : Cond.fieldLink RX5 13 RX5 "code" "[I" ∈ lw_ok := lw_i5 219 rfl rfl
theorem wF_X1_60 : Cond.fieldLink RX1 60 RX5 "code" "[I" ∈ lw_ok := lw_i5 220 rfl rfl
theorem wF_X5_17 : Cond.fieldLink RX5 17 RX5 "places" "[I" ∈ lw_ok := lw_i5 221 rfl rfl
theorem wF_X5_20 : Cond.fieldLink RX5 20 RX5 "next" "[J" ∈ lw_ok := lw_i5 222 rfl rfl
theorem wF_X5_24 : Cond.fieldLink RX5 24 RX5 "first" "[J" ∈ lw_ok := lw_i5 223 rfl rfl
theorem wF_X5_27 : Cond.fieldLink RX5 27 RX5 "last" "[J" ∈ lw_ok := lw_i5 224 rfl rfl
theorem wM_X11_222 : Cond.methodLink RX11 222 yX1_addPolicy ∈ lw_ok := lw_i5 238 rfl rfl
theorem wV_X1_addPolicy : Cond.instanceMethod yX1_addPolicy ∈ lw_ok := lw_i5 239 rfl rfl
theorem wL_X1_addPolicy : Cond.selects RX1 yX1_addPolicy yX1_addPolicy ∈ lw_ok := lw_i6 0 rfl rfl
theorem wK_X1_addPolicy : Cond.code yX1_addPolicy cX1_addPolicy 2 (some .int) ∈ lw_ok := lw_i6 1 rfl rfl
theorem wM_DomainHouseLaw_85 : Cond.methodLink "DomainHouseLaw" 85 yX11_fault ∈ lw_ok := lw_i6 2 rfl rfl
theorem wV_X11_fault : Cond.instanceMethod yX11_fault ∈ lw_ok := lw_i6 3 rfl rfl
theorem wL_X11_fault : Cond.selects RX11 yX11_fault yX11_fault ∈ lw_ok := lw_i6 4 rfl rfl
theorem wK_X11_fault : Cond.code yX11_fault cX11_fault 1 (some .int) ∈ lw_ok := lw_i6 5 rfl rfl
theorem wM_DomainHouseLaw_89 : Cond.methodLink "DomainHouseLaw" 89 yX11_route ∈ lw_ok := lw_i6 6 rfl rfl
theorem wV_X11_route : Cond.instanceMethod yX11_route ∈ lw_ok := lw_i6 7 rfl rfl
theorem wL_X11_route : Cond.selects RX11 yX11_route yX11_route ∈ lw_ok := lw_i6 8 rfl rfl
theorem wK_X11_route : Cond.code yX11_route cX11_route 5 (some .int) ∈ lw_ok := lw_i6 9 rfl rfl
theorem wG_X11_226 : Cond.constant RX11 226 (1000000) ∈ lw_ok := lw_i6 10 rfl rfl
theorem wM_X11_227 : Cond.methodLink RX11 227 yX7_begin ∈ lw_ok := lw_i6 11 rfl rfl
theorem wM_X11_239 : Cond.methodLink RX11 239 ⟨"java/lang/System", "arraycopy", "(Ljava/lang/Object;ILjava/lang/Object;II)V"⟩ ∈ lw_ok := lw_i6 12 rfl rfl
theorem wM_DomainHouseLaw_93 : Cond.methodLink "DomainHouseLaw" 93 yX11_judge ∈ lw_ok := lw_i6 13 rfl rfl
theorem wV_X11_judge : Cond.instanceMethod yX11_judge ∈ lw_ok := lw_i6 14 rfl rfl
theorem wL_X11_judge : Cond.selects RX11 yX11_judge yX11_judge ∈ lw_ok := lw_i6 15 rfl rfl
theorem wK_X11_judge : Cond.code yX11_judge cX11_judge 6 (some .int) ∈ lw_ok := lw_i6 16 rfl rfl
theorem wM_X11_249 : Cond.methodLink RX11 249 yX9_sideOf ∈ lw_ok := lw_i6 17 rfl rfl
theorem wM_X11_252 : Cond.methodLink RX11 252 yX1_lets ∈ lw_ok := lw_i6 18 rfl rfl
theorem wM_DomainHouseLaw_97 : Cond.methodLink "DomainHouseLaw" 97 yX11_hand ∈ lw_ok := lw_i6 19 rfl rfl
theorem wV_X11_hand : Cond.instanceMethod yX11_hand ∈ lw_ok := lw_i6 20 rfl rfl
theorem wL_X11_hand : Cond.selects RX11 yX11_hand yX11_hand ∈ lw_ok := lw_i6 21 rfl rfl
theorem wK_X11_hand : Cond.code yX11_hand cX11_hand 2 (some .int) ∈ lw_ok := lw_i6 22 rfl rfl
theorem wM_X11_265 : Cond.methodLink RX11 265 yX11_rowInHand ∈ lw_ok := lw_i6 23 rfl rfl
theorem wV_X11_rowInHand : Cond.instanceMethod yX11_rowInHand ∈ lw_ok := lw_i6 25 rfl rfl
theorem wK_X11_rowInHand : Cond.code yX11_rowInHand cX11_rowInHand 2 (some .int) ∈ lw_ok := lw_i6 26 rfl rfl
theorem wM_DomainHouseLaw_101 : Cond.methodLink "DomainHouseLaw" 101 yX11_use ∈ lw_ok := lw_i6 27 rfl rfl
theorem wV_X11_use : Cond.instanceMethod yX11_use ∈ lw_ok := lw_i6 28 rfl rfl
theorem wL_X11_use : Cond.selects RX11 yX11_use yX11_use ∈ lw_ok := lw_i6 29 rfl rfl
theorem wK_X11_use : Cond.code yX11_use cX11_use 5 (some .int) ∈ lw_ok := lw_i6 30 rfl rfl
theorem wM_X11_271 : Cond.methodLink RX11 271 yX11_isEither ∈ lw_ok := lw_i6 31 rfl rfl
theorem wS_X11_isEither : Cond.static yX11_isEither ∈ lw_ok := lw_i6 32 rfl rfl
theorem wK_X11_isEither : Cond.code yX11_isEither cX11_isEither 1 (some .boolean) ∈ lw_ok := lw_i6 33 rfl rfl
theorem wM_X11_277 : Cond.methodLink RX11 277 yX9_end ∈ lw_ok := lw_i6 34 rfl rfl
theorem wM_DomainHouseLaw_105 : Cond.methodLink "DomainHouseLaw" 105 yX11_rule ∈ lw_ok := lw_i6 35 rfl rfl
theorem wV_X11_rule : Cond.instanceMethod yX11_rule ∈ lw_ok := lw_i6 36 rfl rfl
theorem wL_X11_rule : Cond.selects RX11 yX11_rule yX11_rule ∈ lw_ok := lw_i6 37 rfl rfl
theorem wK_X11_rule : Cond.code yX11_rule cX11_rule 4 (some .int) ∈ lw_ok := lw_i6 38 rfl rfl
theorem wM_X11_280 : Cond.methodLink RX11 280 yX11_isRule ∈ lw_ok := lw_i6 39 rfl rfl
theorem wS_X11_isRule : Cond.static yX11_isRule ∈ lw_ok := lw_i6 40 rfl rfl
theorem wK_X11_isRule : Cond.code yX11_isRule cX11_isRule 4 (some .boolean) ∈ lw_ok := lw_i6 41 rfl rfl
theorem wM_X11_287 : Cond.methodLink RX11 287 yX0_goBy ∈ lw_ok := lw_i6 42 rfl rfl
theorem wM_DomainHouseLaw_110 : Cond.methodLink "DomainHouseLaw" 110 yX11_announce ∈ lw_ok := lw_i6 43 rfl rfl
theorem wV_X11_announce : Cond.instanceMethod yX11_announce ∈ lw_ok := lw_i6 44 rfl rfl
theorem wL_X11_announce : Cond.selects RX11 yX11_announce yX11_announce ∈ lw_ok := lw_i6 45 rfl rfl
theorem wK_X11_announce : Cond.code yX11_announce cX11_announce 4 (some .int) ∈ lw_ok := lw_i6 46 rfl rfl
theorem wM_X11_296 : Cond.methodLink RX11 296 yX8_look ∈ lw_ok := lw_i6 47 rfl rfl
theorem wM_DomainHouseLaw_114 : Cond.methodLink "DomainHouseLaw" 114 yX11_withdraw ∈ lw_ok := lw_i6 48 rfl rfl
theorem wV_X11_withdraw : Cond.instanceMethod yX11_withdraw ∈ lw_ok := lw_i6 49 rfl rfl
theorem wL_X11_withdraw : Cond.selects RX11 yX11_withdraw yX11_withdraw ∈ lw_ok := lw_i6 50 rfl rfl
theorem wK_X11_withdraw : Cond.code yX11_withdraw cX11_withdraw 3 (some .int) ∈ lw_ok := lw_i6 51 rfl rfl
theorem wM_DomainHouseLaw_118 : Cond.methodLink "DomainHouseLaw" 118 yX11_go ∈ lw_ok := lw_i6 52 rfl rfl
theorem wV_X11_go : Cond.instanceMethod yX11_go ∈ lw_ok := lw_i6 53 rfl rfl
theorem wL_X11_go : Cond.selects RX11 yX11_go yX11_go ∈ lw_ok := lw_i6 54 rfl rfl
theorem wK_X11_go : Cond.code yX11_go cX11_go 3 (some .int) ∈ lw_ok := lw_i6 55 rfl rfl
theorem wG_X11_299 : Cond.constant RX11 299 (2000000000) ∈ lw_ok := lw_i6 56 rfl rfl
theorem wM_X11_300 : Cond.methodLink RX11 300 yX8_doNext ∈ lw_ok := lw_i6 57 rfl rfl
theorem wV_X8_doNext : Cond.instanceMethod yX8_doNext ∈ lw_ok := lw_i6 58 rfl rfl
theorem wL_X8_doNext : Cond.selects RX8 yX8_doNext yX8_doNext ∈ lw_ok := lw_i6 59 rfl rfl
theorem wK_X8_doNext : Cond.code yX8_doNext cX8_doNext 6 (some .boolean) ∈ lw_ok := lw_i6 60 rfl rfl
theorem wM_X8_82 : Cond.methodLink RX8 82 yX8_handOver ∈ lw_ok := lw_i6 61 rfl rfl
theorem wV_X8_handOver : Cond.instanceMethod yX8_handOver ∈ lw_ok := lw_i6 63 rfl rfl
theorem wK_X8_handOver : Cond.code yX8_handOver cX8_handOver 5 none ∈ lw_ok := lw_i6 64 rfl rfl
theorem wM_DomainHouseLaw_122 : Cond.methodLink "DomainHouseLaw" 122 yX11_until ∈ lw_ok := lw_i6 65 rfl rfl
theorem wV_X11_until : Cond.instanceMethod yX11_until ∈ lw_ok := lw_i6 66 rfl rfl
theorem wL_X11_until : Cond.selects RX11 yX11_until yX11_until ∈ lw_ok := lw_i6 67 rfl rfl
theorem wK_X11_until : Cond.code yX11_until cX11_until 3 (some .int) ∈ lw_ok := lw_i6 68 rfl rfl
theorem wG_X11_306 : Cond.constant RX11 306 (1000000000) ∈ lw_ok := lw_i6 69 rfl rfl
theorem wM_X11_307 : Cond.methodLink RX11 307 yX8_passTo ∈ lw_ok := lw_i6 70 rfl rfl
theorem wV_X8_passTo : Cond.instanceMethod yX8_passTo ∈ lw_ok := lw_i6 71 rfl rfl
theorem wL_X8_passTo : Cond.selects RX8 yX8_passTo yX8_passTo ∈ lw_ok := lw_i6 72 rfl rfl
theorem wK_X8_passTo : Cond.code yX8_passTo cX8_passTo 2 none ∈ lw_ok := lw_i6 73 rfl rfl
theorem wM_DomainHouseLaw_126 : Cond.methodLink "DomainHouseLaw" 126 yX11_picked ∈ lw_ok := lw_i6 74 rfl rfl
theorem wV_X11_picked : Cond.instanceMethod yX11_picked ∈ lw_ok := lw_i6 75 rfl rfl
theorem wL_X11_picked : Cond.selects RX11 yX11_picked yX11_picked ∈ lw_ok := lw_i6 76 rfl rfl
theorem wK_X11_picked : Cond.code yX11_picked cX11_picked 4 (some .int) ∈ lw_ok := lw_i6 77 rfl rfl
theorem wM_X11_317 : Cond.methodLink RX11 317 yX7_become ∈ lw_ok := lw_i6 78 rfl rfl
theorem wM_DomainHouseLaw_130 : Cond.methodLink "DomainHouseLaw" 130 yX11_heard ∈ lw_ok := lw_i6 79 rfl rfl
theorem wV_X11_heard : Cond.instanceMethod yX11_heard ∈ lw_ok := lw_i6 80 rfl rfl
theorem wL_X11_heard : Cond.selects RX11 yX11_heard yX11_heard ∈ lw_ok := lw_i6 81 rfl rfl
theorem wK_X11_heard : Cond.code yX11_heard cX11_heard 7 (some .int) ∈ lw_ok := lw_i6 82 rfl rfl
theorem wM_X11_321 : Cond.methodLink RX11 321 yX9_placeOf ∈ lw_ok := lw_i6 83 rfl rfl
theorem wM_DomainHouseLaw_134 : Cond.methodLink "DomainHouseLaw" 134 yX11_why ∈ lw_ok := lw_i6 84 rfl rfl
theorem wV_X11_why : Cond.instanceMethod yX11_why ∈ lw_ok := lw_i6 85 rfl rfl
theorem wL_X11_why : Cond.selects RX11 yX11_why yX11_why ∈ lw_ok := lw_i6 86 rfl rfl
theorem wK_X11_why : Cond.code yX11_why cX11_why 4 (some .int) ∈ lw_ok := lw_i6 87 rfl rfl
theorem wM_X11_333 : Cond.methodLink RX11 333 yX8_reason ∈ lw_ok := lw_i6 88 rfl rfl
theorem wV_X8_reason : Cond.instanceMethod yX8_reason ∈ lw_ok := lw_i6 89 rfl rfl
theorem wL_X8_reason : Cond.selects RX8 yX8_reason yX8_reason ∈ lw_ok := lw_i6 90 rfl rfl
theorem wK_X8_reason : Cond.code yX8_reason cX8_reason 10 (some .int) ∈ lw_ok := lw_i6 91 rfl rfl
theorem wM_X8_276 : Cond.methodLink RX8 276 yX8_candidateOver ∈ lw_ok := lw_i6 92 rfl rfl
theorem wV_X8_candidateOver : Cond.instanceMethod yX8_candidateOver ∈ lw_ok := lw_i6 94 rfl rfl
theorem wK_X8_candidateOver : Cond.code yX8_candidateOver cX8_candidateOver 3 (some .int) ∈ lw_ok := lw_i6 95 rfl rfl
theorem wM_X8_279 : Cond.methodLink RX8 279 yX0_firstUnlikeStep ∈ lw_ok := lw_i6 96 rfl rfl
theorem wV_X0_firstUnlikeStep : Cond.instanceMethod yX0_firstUnlikeStep ∈ lw_ok := lw_i6 97 rfl rfl
theorem wL_X0_firstUnlikeStep : Cond.selects RX0 yX0_firstUnlikeStep yX0_firstUnlikeStep ∈ lw_ok := lw_i6 98 rfl rfl
theorem wK_X0_firstUnlikeStep : Cond.code yX0_firstUnlikeStep cX0_firstUnlikeStep 4 (some .int) ∈ lw_ok := lw_i6 99 rfl rfl
theorem wM_DomainHouseLaw_138 : Cond.methodLink "DomainHouseLaw" 138 yX11_three ∈ lw_ok := lw_i6 100 rfl rfl
theorem wV_X11_three : Cond.instanceMethod yX11_three ∈ lw_ok := lw_i6 101 rfl rfl
theorem wL_X11_three : Cond.selects RX11 yX11_three yX11_three ∈ lw_ok := lw_i6 102 rfl rfl
theorem wK_X11_three : Cond.code yX11_three cX11_three 4 (some .int) ∈ lw_ok := lw_i6 103 rfl rfl
theorem wM_X11_336 : Cond.methodLink RX11 336 yX8_threeInRing ∈ lw_ok := lw_i6 104 rfl rfl
theorem wV_X8_threeInRing : Cond.instanceMethod yX8_threeInRing ∈ lw_ok := lw_i6 105 rfl rfl
theorem wL_X8_threeInRing : Cond.selects RX8 yX8_threeInRing yX8_threeInRing ∈ lw_ok := lw_i6 106 rfl rfl
theorem wK_X8_threeInRing : Cond.code yX8_threeInRing cX8_threeInRing 9 (some .int) ∈ lw_ok := lw_i6 107 rfl rfl
theorem wM_DomainHouseLaw_142 : Cond.methodLink "DomainHouseLaw" 142 yX11_message ∈ lw_ok := lw_i6 108 rfl rfl
theorem wV_X11_message : Cond.instanceMethod yX11_message ∈ lw_ok := lw_i6 109 rfl rfl
theorem wL_X11_message : Cond.selects RX11 yX11_message yX11_message ∈ lw_ok := lw_i6 110 rfl rfl
theorem wK_X11_message : Cond.code yX11_message cX11_message 2 (some .int) ∈ lw_ok := lw_i6 111 rfl rfl
theorem wM_X11_339 : Cond.methodLink RX11 339 yX3_read ∈ lw_ok := lw_i6 112 rfl rfl
theorem wV_X3_read : Cond.instanceMethod yX3_read ∈ lw_ok := lw_i6 113 rfl rfl
theorem wL_X3_read : Cond.selects RX3 yX3_read yX3_read ∈ lw_ok := lw_i6 114 rfl rfl
theorem wK_X3_read : Cond.code yX3_read cX3_read 4 (some .int) ∈ lw_ok := lw_i6 115 rfl rfl
theorem wM_X3_44 : Cond.methodLink RX3 44 yX3_forget ∈ lw_ok := lw_i6 116 rfl rfl
theorem wV_X3_forget : Cond.instanceMethod yX3_forget ∈ lw_ok := lw_i6 118 rfl rfl
theorem wK_X3_forget : Cond.code yX3_forget cX3_forget 1 none ∈ lw_ok := lw_i6 119 rfl rfl
theorem wM_X3_69 : Cond.methodLink RX3 69 ⟨"java/util/Arrays", "fill", "([II)V"⟩ ∈ lw_ok := lw_i6 120 rfl rfl
theorem wM_X3_75 : Cond.methodLink RX3 75 yX7_begin ∈ lw_ok := lw_i6 121 rfl rfl
theorem wM_X3_47 : Cond.methodLink RX3 47 yX3_readParts ∈ lw_ok := lw_i6 122 rfl rfl
theorem wV_X3_readParts : Cond.instanceMethod yX3_readParts ∈ lw_ok := lw_i6 124 rfl rfl
theorem wK_X3_readParts : Cond.code yX3_readParts cX3_readParts 4 none ∈ lw_ok := lw_i6 125 rfl rfl
theorem wM_X3_88 : Cond.methodLink RX3 88 yX3_pairAt ∈ lw_ok := lw_i6 126 rfl rfl
theorem wV_X3_pairAt : Cond.instanceMethod yX3_pairAt ∈ lw_ok := lw_i6 128 rfl rfl
theorem wK_X3_pairAt : Cond.code yX3_pairAt cX3_pairAt 2 (some .int) ∈ lw_ok := lw_i6 129 rfl rfl
theorem wM_X3_92 : Cond.methodLink RX3 92 yX3_note ∈ lw_ok := lw_i6 130 rfl rfl
theorem wV_X3_note : Cond.instanceMethod yX3_note ∈ lw_ok := lw_i6 132 rfl rfl
theorem wK_X3_note : Cond.code yX3_note cX3_note 3 none ∈ lw_ok := lw_i6 133 rfl rfl
theorem wM_X3_95 : Cond.methodLink RX3 95 yX3_readPrefixes ∈ lw_ok := lw_i6 134 rfl rfl
theorem wV_X3_readPrefixes : Cond.instanceMethod yX3_readPrefixes ∈ lw_ok := lw_i6 136 rfl rfl
theorem wK_X3_readPrefixes : Cond.code yX3_readPrefixes cX3_readPrefixes 10 (some .int) ∈ lw_ok := lw_i6 137 rfl rfl
theorem wM_X3_102 : Cond.methodLink RX3 102 yX10_maskOf ∈ lw_ok := lw_i6 138 rfl rfl
theorem wM_X3_99 : Cond.methodLink RX3 99 yX3_readAttributes ∈ lw_ok := lw_i6 139 rfl rfl
theorem wV_X3_readAttributes : Cond.instanceMethod yX3_readAttributes ∈ lw_ok := lw_i6 141 rfl rfl
theorem wK_X3_readAttributes : Cond.code yX3_readAttributes cX3_readAttributes 7 none ∈ lw_ok := lw_i6 142 rfl rfl
theorem wM_X3_107 : Cond.methodLink RX3 107 yX3_readAttribute ∈ lw_ok := lw_i6 143 rfl rfl
theorem wV_X3_readAttribute : Cond.instanceMethod yX3_readAttribute ∈ lw_ok := lw_i6 145 rfl rfl
theorem wK_X3_readAttribute : Cond.code yX3_readAttribute cX3_readAttribute 8 none ∈ lw_ok := lw_i6 146 rfl rfl
theorem wM_X3_111 : Cond.methodLink RX3 111 yX3_readOrigin ∈ lw_ok := lw_i6 147 rfl rfl
theorem wV_X3_readOrigin : Cond.instanceMethod yX3_readOrigin ∈ lw_ok := lw_i6 149 rfl rfl
theorem wK_X3_readOrigin : Cond.code yX3_readOrigin cX3_readOrigin 3 (some .boolean) ∈ lw_ok := lw_i6 150 rfl rfl
theorem wM_X3_115 : Cond.methodLink RX3 115 yX3_readWay ∈ lw_ok := lw_i6 151 rfl rfl
theorem wV_X3_readWay : Cond.instanceMethod yX3_readWay ∈ lw_ok := lw_i6 153 rfl rfl
theorem wK_X3_readWay : Cond.code yX3_readWay cX3_readWay 9 (some .boolean) ∈ lw_ok := lw_i6 154 rfl rfl
theorem wM_X3_130 : Cond.methodLink RX3 130 yX3_fourAt ∈ lw_ok := lw_i6 155 rfl rfl
theorem wV_X3_fourAt : Cond.instanceMethod yX3_fourAt ∈ lw_ok := lw_i6 157 rfl rfl
theorem wK_X3_fourAt : Cond.code yX3_fourAt cX3_fourAt 2 (some .int) ∈ lw_ok := lw_i6 158 rfl rfl
theorem wM_X3_143 : Cond.methodLink RX3 143 yX3_sortWithoutSign ∈ lw_ok := lw_i6 159 rfl rfl
theorem wS_X3_sortWithoutSign : Cond.static yX3_sortWithoutSign ∈ lw_ok := lw_i6 160 rfl rfl
theorem wK_X3_sortWithoutSign : Cond.code yX3_sortWithoutSign cX3_sortWithoutSign 6 none ∈ lw_ok := lw_i6 161 rfl rfl
theorem wG_X3_152 : Cond.constant RX3 152 (-2147483648) ∈ lw_ok := lw_i6 162 rfl rfl
theorem wM_X3_118 : Cond.methodLink RX3 118 yX3_readCost ∈ lw_ok := lw_i6 163 rfl rfl
theorem wV_X3_readCost : Cond.instanceMethod yX3_readCost ∈ lw_ok := lw_i6 165 rfl rfl
theorem wK_X3_readCost : Cond.code yX3_readCost cX3_readCost 4 (some .boolean) ∈ lw_ok := lw_i6 166 rfl rfl
theorem wG_X3_133 : Cond.constant RX3 133 (1000000) ∈ lw_ok := lw_i6 167 rfl rfl
theorem wM_X3_121 : Cond.methodLink RX3 121 yX3_readMarks ∈ lw_ok := lw_i6 168 rfl rfl
theorem wV_X3_readMarks : Cond.instanceMethod yX3_readMarks ∈ lw_ok := lw_i6 170 rfl rfl
theorem wK_X3_readMarks : Cond.code yX3_readMarks cX3_readMarks 4 (some .boolean) ∈ lw_ok := lw_i6 171 rfl rfl
theorem wM_X3_137 : Cond.methodLink RX3 137 yX3_keepMark ∈ lw_ok := lw_i6 172 rfl rfl
theorem wV_X3_keepMark : Cond.instanceMethod yX3_keepMark ∈ lw_ok := lw_i6 174 rfl rfl
theorem wK_X3_keepMark : Cond.code yX3_keepMark cX3_keepMark 3 none ∈ lw_ok := lw_i6 175 rfl rfl
theorem wM_X3_124 : Cond.methodLink RX3 124 yX3_carry ∈ lw_ok := lw_i6 176 rfl rfl
theorem wV_X3_carry : Cond.instanceMethod yX3_carry ∈ lw_ok := lw_i6 178 rfl rfl
theorem wK_X3_carry : Cond.code yX3_carry cX3_carry 3 none ∈ lw_ok := lw_i6 179 rfl rfl
theorem wM_X3_60 : Cond.methodLink RX3 60 yX7_addMark ∈ lw_ok := lw_i6 180 rfl rfl
theorem wM_DomainHouseLaw_146 : Cond.methodLink "DomainHouseLaw" 146 yX11_part ∈ lw_ok := lw_i6 181 rfl rfl
theorem wV_X11_part : Cond.instanceMethod yX11_part ∈ lw_ok := lw_i6 182 rfl rfl
theorem wL_X11_part : Cond.selects RX11 yX11_part yX11_part ∈ lw_ok := lw_i6 183 rfl rfl
theorem wK_X11_part : Cond.code yX11_part cX11_part 2 (some .int) ∈ lw_ok := lw_i6 184 rfl rfl
theorem wM_X11_341 : Cond.methodLink RX11 341 yX3_told ∈ lw_ok := lw_i6 185 rfl rfl
theorem wV_X3_told : Cond.instanceMethod yX3_told ∈ lw_ok := lw_i6 186 rfl rfl
theorem wL_X3_told : Cond.selects RX3 yX3_told yX3_told ∈ lw_ok := lw_i6 187 rfl rfl
theorem wK_X3_told : Cond.code yX3_told cX3_told 2 (some .int) ∈ lw_ok := lw_i6 188 rfl rfl
theorem wM_X3_153 : Cond.methodLink RX3 153 yX3_placeTold ∈ lw_ok := lw_i6 189 rfl rfl
theorem wV_X3_placeTold : Cond.instanceMethod yX3_placeTold ∈ lw_ok := lw_i6 191 rfl rfl
theorem wK_X3_placeTold : Cond.code yX3_placeTold cX3_placeTold 2 (some .int) ∈ lw_ok := lw_i6 192 rfl rfl
theorem wM_X3_157 : Cond.methodLink RX3 157 yX3_toldInAll ∈ lw_ok := lw_i6 193 rfl rfl
theorem wV_X3_toldInAll : Cond.instanceMethod yX3_toldInAll ∈ lw_ok := lw_i6 195 rfl rfl
theorem wK_X3_toldInAll : Cond.code yX3_toldInAll cX3_toldInAll 2 (some .int) ∈ lw_ok := lw_i6 196 rfl rfl
theorem wM_X3_160 : Cond.methodLink RX3 160 yX3_toldOfRow ∈ lw_ok := lw_i6 197 rfl rfl
theorem wV_X3_toldOfRow : Cond.instanceMethod yX3_toldOfRow ∈ lw_ok := lw_i6 199 rfl rfl
theorem wK_X3_toldOfRow : Cond.code yX3_toldOfRow cX3_toldOfRow 3 (some .int) ∈ lw_ok := lw_i6 200 rfl rfl
theorem wM_DomainHouseLaw_150 : Cond.methodLink "DomainHouseLaw" 150 yX11_hear ∈ lw_ok := lw_i6 201 rfl rfl
theorem wV_X11_hear : Cond.instanceMethod yX11_hear ∈ lw_ok := lw_i6 202 rfl rfl
theorem wL_X11_hear : Cond.selects RX11 yX11_hear yX11_hear ∈ lw_ok := lw_i6 203 rfl rfl
theorem wK_X11_hear : Cond.code yX11_hear cX11_hear 3 (some .int) ∈ lw_ok := lw_i6 204 rfl rfl
theorem wM_X11_347 : Cond.methodLink RX11 347 yX8_takeIn ∈ lw_ok := lw_i6 205 rfl rfl
theorem wV_X8_takeIn : Cond.instanceMethod yX8_takeIn ∈ lw_ok := lw_i6 206 rfl rfl
theorem wL_X8_takeIn : Cond.selects RX8 yX8_takeIn yX8_takeIn ∈ lw_ok := lw_i6 207 rfl rfl
theorem wK_X8_takeIn : Cond.code yX8_takeIn cX8_takeIn 10 (some .int) ∈ lw_ok := lw_i6 208 rfl rfl
theorem wM_X8_127 : Cond.methodLink RX8 127 yX10_findPrefix ∈ lw_ok := lw_i6 209 rfl rfl
theorem wM_DomainHouseLaw_154 : Cond.methodLink "DomainHouseLaw" 154 yX11_write ∈ lw_ok := lw_i6 210 rfl rfl
theorem wV_X11_write : Cond.instanceMethod yX11_write ∈ lw_ok := lw_i6 211 rfl rfl
theorem wL_X11_write : Cond.selects RX11 yX11_write yX11_write ∈ lw_ok := lw_i6 212 rfl rfl
theorem wK_X11_write : Cond.code yX11_write cX11_write 5 (some .int) ∈ lw_ok := lw_i6 213 rfl rfl
theorem wM_X11_354 : Cond.methodLink RX11 354 yX3_putDown ∈ lw_ok := lw_i6 214 rfl rfl
theorem wV_X3_putDown : Cond.instanceMethod yX3_putDown ∈ lw_ok := lw_i6 215 rfl rfl
theorem wL_X3_putDown : Cond.selects RX3 yX3_putDown yX3_putDown ∈ lw_ok := lw_i6 216 rfl rfl
theorem wK_X3_putDown : Cond.code yX3_putDown cX3_putDown 6 (some .int) ∈ lw_ok := lw_i6 217 rfl rfl
theorem wM_X3_169 : Cond.methodLink RX3 169 yX3_putNumber ∈ lw_ok := lw_i6 218 rfl rfl
theorem wV_X3_putNumber : Cond.instanceMethod yX3_putNumber ∈ lw_ok := lw_i6 220 rfl rfl
theorem wK_X3_putNumber : Cond.code yX3_putNumber cX3_putNumber 4 none ∈ lw_ok := lw_i6 221 rfl rfl
theorem wM_X3_172 : Cond.methodLink RX3 172 yX3_putPrefix ∈ lw_ok := lw_i6 222 rfl rfl
theorem wV_X3_putPrefix : Cond.instanceMethod yX3_putPrefix ∈ lw_ok := lw_i6 224 rfl rfl
theorem wK_X3_putPrefix : Cond.code yX3_putPrefix cX3_putPrefix 5 none ∈ lw_ok := lw_i6 225 rfl rfl
theorem wM_X3_175 : Cond.methodLink RX3 175 yX3_putAttributes ∈ lw_ok := lw_i6 226 rfl rfl
theorem wV_X3_putAttributes : Cond.instanceMethod yX3_putAttributes ∈ lw_ok := lw_i6 228 rfl rfl
theorem wK_X3_putAttributes : Cond.code yX3_putAttributes cX3_putAttributes 3 none ∈ lw_ok := lw_i6 229 rfl rfl
theorem wM_X3_179 : Cond.methodLink RX3 179 yX3_putHead ∈ lw_ok := lw_i6 230 rfl rfl
theorem wV_X3_putHead : Cond.instanceMethod yX3_putHead ∈ lw_ok := lw_i6 232 rfl rfl
theorem wK_X3_putHead : Cond.code yX3_putHead cX3_putHead 4 none ∈ lw_ok := lw_i6 233 rfl rfl
theorem wM_DomainHouseLaw_158 : Cond.methodLink "DomainHouseLaw" 158 yX11_octet ∈ lw_ok := lw_i6 234 rfl rfl
theorem wV_X11_octet : Cond.instanceMethod yX11_octet ∈ lw_ok := lw_i6 235 rfl rfl
theorem wL_X11_octet : Cond.selects RX11 yX11_octet yX11_octet ∈ lw_ok := lw_i6 236 rfl rfl
theorem wK_X11_octet : Cond.code yX11_octet cX11_octet 2 (some .int) ∈ lw_ok := lw_i6 237 rfl rfl
theorem wM_DomainHouseLaw_162 : Cond.methodLink "DomainHouseLaw" 162 yX11_letter ∈ lw_ok := lw_i6 238 rfl rfl
theorem wV_X11_letter : Cond.instanceMethod yX11_letter ∈ lw_ok := lw_i6 239 rfl rfl
theorem wL_X11_letter : Cond.selects RX11 yX11_letter yX11_letter ∈ lw_ok := lw_i7 0 rfl rfl
theorem wK_X11_letter : Cond.code yX11_letter cX11_letter 3 (some .int) ∈ lw_ok := lw_i7 1 rfl rfl
theorem wM_X11_364 : Cond.methodLink RX11 364 yX2_send ∈ lw_ok := lw_i7 2 rfl rfl
theorem wV_X2_send : Cond.instanceMethod yX2_send ∈ lw_ok := lw_i7 3 rfl rfl
theorem wL_X2_send : Cond.selects RX2 yX2_send yX2_send ∈ lw_ok := lw_i7 4 rfl rfl
theorem wK_X2_send : Cond.code yX2_send cX2_send 4 (some .int) ∈ lw_ok := lw_i7 5 rfl rfl
theorem wM_X2_83 : Cond.methodLink RX2 83 yX2_travel ∈ lw_ok := lw_i7 6 rfl rfl
theorem wV_X2_travel : Cond.instanceMethod yX2_travel ∈ lw_ok := lw_i7 8 rfl rfl
theorem wK_X2_travel : Cond.code yX2_travel cX2_travel 6 (some .int) ∈ lw_ok := lw_i7 9 rfl rfl
theorem wM_X2_80 : Cond.methodLink RX2 80 yX2_partnerFor ∈ lw_ok := lw_i7 10 rfl rfl
theorem wV_X2_partnerFor : Cond.instanceMethod yX2_partnerFor ∈ lw_ok := lw_i7 12 rfl rfl
theorem wK_X2_partnerFor : Cond.code yX2_partnerFor cX2_partnerFor 5 (some .int) ∈ lw_ok := lw_i7 13 rfl rfl
theorem wM_X2_60 : Cond.methodLink RX2 60 yX2_tieFor ∈ lw_ok := lw_i7 14 rfl rfl
theorem wV_X2_tieFor : Cond.instanceMethod yX2_tieFor ∈ lw_ok := lw_i7 16 rfl rfl
theorem wK_X2_tieFor : Cond.code yX2_tieFor cX2_tieFor 8 (some .int) ∈ lw_ok := lw_i7 17 rfl rfl
theorem wG_X2_41 : Cond.constant RX2 41 (-99999999) ∈ lw_ok := lw_i7 18 rfl rfl
theorem wM_X2_68 : Cond.methodLink RX2 68 yX9_sideOf ∈ lw_ok := lw_i7 19 rfl rfl
theorem wM_X2_74 : Cond.methodLink RX2 74 yX9_end ∈ lw_ok := lw_i7 20 rfl rfl
theorem wM_X2_86 : Cond.methodLink RX2 86 ⟨"java/lang/System", "arraycopy", "(Ljava/lang/Object;ILjava/lang/Object;II)V"⟩ ∈ lw_ok := lw_i7 21 rfl rfl
theorem wM_DomainHouseLaw_166 : Cond.methodLink "DomainHouseLaw" 166 yX11_led ∈ lw_ok := lw_i7 22 rfl rfl
theorem wV_X11_led : Cond.instanceMethod yX11_led ∈ lw_ok := lw_i7 23 rfl rfl
theorem wL_X11_led : Cond.selects RX11 yX11_led yX11_led ∈ lw_ok := lw_i7 24 rfl rfl
theorem wK_X11_led : Cond.code yX11_led cX11_led 2 (some .int) ∈ lw_ok := lw_i7 25 rfl rfl
theorem wM_DomainHouseLaw_170 : Cond.methodLink "DomainHouseLaw" 170 yX11_demand ∈ lw_ok := lw_i7 26 rfl rfl
theorem wV_X11_demand : Cond.instanceMethod yX11_demand ∈ lw_ok := lw_i7 27 rfl rfl
theorem wL_X11_demand : Cond.selects RX11 yX11_demand yX11_demand ∈ lw_ok := lw_i7 28 rfl rfl
theorem wK_X11_demand : Cond.code yX11_demand cX11_demand 4 (some .int) ∈ lw_ok := lw_i7 29 rfl rfl
theorem wM_X11_376 : Cond.methodLink RX11 376 yX2_addDemand ∈ lw_ok := lw_i7 30 rfl rfl
theorem wV_X2_addDemand : Cond.instanceMethod yX2_addDemand ∈ lw_ok := lw_i7 31 rfl rfl
theorem wL_X2_addDemand : Cond.selects RX2 yX2_addDemand yX2_addDemand ∈ lw_ok := lw_i7 32 rfl rfl
theorem wK_X2_addDemand : Cond.code yX2_addDemand cX2_addDemand 4 (some .int) ∈ lw_ok := lw_i7 33 rfl rfl
theorem wM_DomainHouseLaw_174 : Cond.methodLink "DomainHouseLaw" 174 yX11_load ∈ lw_ok := lw_i7 34 rfl rfl
theorem wV_X11_load : Cond.instanceMethod yX11_load ∈ lw_ok := lw_i7 35 rfl rfl
theorem wL_X11_load : Cond.selects RX11 yX11_load yX11_load ∈ lw_ok := lw_i7 36 rfl rfl
theorem wK_X11_load : Cond.code yX11_load cX11_load 4 (some .int) ∈ lw_ok := lw_i7 37 rfl rfl
theorem wM_X11_379 : Cond.methodLink RX11 379 yX2_unitsOver ∈ lw_ok := lw_i7 38 rfl rfl
theorem wV_X2_unitsOver : Cond.instanceMethod yX2_unitsOver ∈ lw_ok := lw_i7 39 rfl rfl
theorem wL_X2_unitsOver : Cond.selects RX2 yX2_unitsOver yX2_unitsOver ∈ lw_ok := lw_i7 40 rfl rfl
theorem wK_X2_unitsOver : Cond.code yX2_unitsOver cX2_unitsOver 6 (some .int) ∈ lw_ok := lw_i7 41 rfl rfl
theorem wM_DomainHouseLaw_178 : Cond.methodLink "DomainHouseLaw" 178 yX11_units ∈ lw_ok := lw_i7 42 rfl rfl
theorem wV_X11_units : Cond.instanceMethod yX11_units ∈ lw_ok := lw_i7 43 rfl rfl
theorem wL_X11_units : Cond.selects RX11 yX11_units yX11_units ∈ lw_ok := lw_i7 44 rfl rfl
theorem wK_X11_units : Cond.code yX11_units cX11_units 2 (some .int) ∈ lw_ok := lw_i7 45 rfl rfl
theorem wM_X11_382 : Cond.methodLink RX11 382 yX2_unitsThat ∈ lw_ok := lw_i7 46 rfl rfl
theorem wV_X2_unitsThat : Cond.instanceMethod yX2_unitsThat ∈ lw_ok := lw_i7 47 rfl rfl
theorem wL_X2_unitsThat : Cond.selects RX2 yX2_unitsThat yX2_unitsThat ∈ lw_ok := lw_i7 48 rfl rfl
theorem wK_X2_unitsThat : Cond.code yX2_unitsThat cX2_unitsThat 4 (some .int) ∈ lw_ok := lw_i7 49 rfl rfl
theorem wM_DomainHouseLaw_182 : Cond.methodLink "DomainHouseLaw" 182 yX11_least ∈ lw_ok := lw_i7 50 rfl rfl
theorem wV_X11_least : Cond.instanceMethod yX11_least ∈ lw_ok := lw_i7 51 rfl rfl
theorem wL_X11_least : Cond.selects RX11 yX11_least yX11_least ∈ lw_ok := lw_i7 52 rfl rfl
theorem wK_X11_least : Cond.code yX11_least cX11_least 2 (some .int) ∈ lw_ok := lw_i7 53 rfl rfl
theorem wM_X11_385 : Cond.methodLink RX11 385 yX2_leastTable ∈ lw_ok := lw_i7 54 rfl rfl
theorem wV_X2_leastTable : Cond.instanceMethod yX2_leastTable ∈ lw_ok := lw_i7 55 rfl rfl
theorem wL_X2_leastTable : Cond.selects RX2 yX2_leastTable yX2_leastTable ∈ lw_ok := lw_i7 56 rfl rfl
theorem wK_X2_leastTable : Cond.code yX2_leastTable cX2_leastTable 3 (some .int) ∈ lw_ok := lw_i7 57 rfl rfl
theorem wM_X2_101 : Cond.methodLink RX2 101 yX2_leastBelow ∈ lw_ok := lw_i7 58 rfl rfl
theorem wV_X2_leastBelow : Cond.instanceMethod yX2_leastBelow ∈ lw_ok := lw_i7 60 rfl rfl
theorem wK_X2_leastBelow : Cond.code yX2_leastBelow cX2_leastBelow 6 (some .int) ∈ lw_ok := lw_i7 61 rfl rfl
theorem wM_X2_106 : Cond.methodLink RX2 106 yX2_isSplit ∈ lw_ok := lw_i7 62 rfl rfl
theorem wV_X2_isSplit : Cond.instanceMethod yX2_isSplit ∈ lw_ok := lw_i7 64 rfl rfl
theorem wK_X2_isSplit : Cond.code yX2_isSplit cX2_isSplit 7 (some .boolean) ∈ lw_ok := lw_i7 65 rfl rfl
theorem wM_X2_113 : Cond.methodLink RX2 113 yX10_maskOf ∈ lw_ok := lw_i7 66 rfl rfl
theorem wM_X2_110 : Cond.methodLink RX2 110 yX2_aimBit ∈ lw_ok := lw_i7 67 rfl rfl
theorem wS_X2_aimBit : Cond.static yX2_aimBit ∈ lw_ok := lw_i7 68 rfl rfl
theorem wK_X2_aimBit : Cond.code yX2_aimBit cX2_aimBit 1 (some .int) ∈ lw_ok := lw_i7 69 rfl rfl
theorem wG_X2_116 : Cond.constant RX2 116 (1048576) ∈ lw_ok := lw_i7 70 rfl rfl
theorem wG_X2_105 : Cond.constant RX2 105 (2097152) ∈ lw_ok := lw_i7 71 rfl rfl
theorem wM_DomainHouseLaw_186 : Cond.methodLink "DomainHouseLaw" 186 yX11_differ ∈ lw_ok := lw_i7 72 rfl rfl
theorem wV_X11_differ : Cond.instanceMethod yX11_differ ∈ lw_ok := lw_i7 73 rfl rfl
theorem wL_X11_differ : Cond.selects RX11 yX11_differ yX11_differ ∈ lw_ok := lw_i7 74 rfl rfl
theorem wK_X11_differ : Cond.code yX11_differ cX11_differ 3 (some .long) ∈ lw_ok := lw_i7 75 rfl rfl
theorem wM_X11_388 : Cond.methodLink RX11 388 yX2_unlikeAddresses ∈ lw_ok := lw_i7 76 rfl rfl
theorem wV_X2_unlikeAddresses : Cond.instanceMethod yX2_unlikeAddresses ∈ lw_ok := lw_i7 77 rfl rfl
theorem wL_X2_unlikeAddresses : Cond.selects RX2 yX2_unlikeAddresses yX2_unlikeAddresses ∈ lw_ok := lw_i7 78 rfl rfl
theorem wK_X2_unlikeAddresses : Cond.code yX2_unlikeAddresses cX2_unlikeAddresses 8 (some .long) ∈ lw_ok := lw_i7 79 rfl rfl
theorem wM_X2_117 : Cond.methodLink RX2 117 yX2_layBorders ∈ lw_ok := lw_i7 80 rfl rfl
theorem wV_X2_layBorders : Cond.instanceMethod yX2_layBorders ∈ lw_ok := lw_i7 82 rfl rfl
theorem wK_X2_layBorders : Cond.code yX2_layBorders cX2_layBorders 5 (some .int) ∈ lw_ok := lw_i7 83 rfl rfl
theorem wH_X2_121 : Cond.constantLong RX2 121 (4294967295) ∈ lw_ok := lw_i7 84 rfl rfl
theorem wM_X2_123 : Cond.methodLink RX2 123 yX2_insertBorder ∈ lw_ok := lw_i7 85 rfl rfl
theorem wV_X2_insertBorder : Cond.instanceMethod yX2_insertBorder ∈ lw_ok := lw_i7 87 rfl rfl
theorem wK_X2_insertBorder : Cond.code yX2_insertBorder cX2_insertBorder 5 none ∈ lw_ok := lw_i7 88 rfl rfl
theorem wH_X11_392 : Cond.constantLong RX11 392 (-1) ∈ lw_ok := lw_i7 89 rfl rfl
theorem wM_DomainHouseLaw_191 : Cond.methodLink "DomainHouseLaw" 191 yX11_clear ∈ lw_ok := lw_i7 90 rfl rfl
theorem wV_X11_clear : Cond.instanceMethod yX11_clear ∈ lw_ok := lw_i7 91 rfl rfl
theorem wL_X11_clear : Cond.selects RX11 yX11_clear yX11_clear ∈ lw_ok := lw_i7 92 rfl rfl
theorem wK_X11_clear : Cond.code yX11_clear cX11_clear 1 (some .int) ∈ lw_ok := lw_i7 93 rfl rfl
theorem wM_X11_394 : Cond.methodLink RX11 394 yX4_forget ∈ lw_ok := lw_i7 94 rfl rfl
theorem wV_X4_forget : Cond.instanceMethod yX4_forget ∈ lw_ok := lw_i7 95 rfl rfl
theorem wL_X4_forget : Cond.selects RX4 yX4_forget yX4_forget ∈ lw_ok := lw_i7 96 rfl rfl
theorem wK_X4_forget : Cond.code yX4_forget cX4_forget 3 (some .int) ∈ lw_ok := lw_i7 97 rfl rfl
theorem wM_DomainHouseLaw_195 : Cond.methodLink "DomainHouseLaw" 195 yX11_wish ∈ lw_ok := lw_i7 98 rfl rfl
theorem wV_X11_wish : Cond.instanceMethod yX11_wish ∈ lw_ok := lw_i7 99 rfl rfl
theorem wL_X11_wish : Cond.selects RX11 yX11_wish yX11_wish ∈ lw_ok := lw_i7 100 rfl rfl
theorem wK_X11_wish : Cond.code yX11_wish cX11_wish 1 (some .int) ∈ lw_ok := lw_i7 101 rfl rfl
theorem wM_X11_397 : Cond.methodLink RX11 397 yX4_isWish ∈ lw_ok := lw_i7 102 rfl rfl
theorem wS_X4_isWish : Cond.static yX4_isWish ∈ lw_ok := lw_i7 103 rfl rfl
theorem wK_X4_isWish : Cond.code yX4_isWish cX4_isWish 4 (some .boolean) ∈ lw_ok := lw_i7 104 rfl rfl
theorem wM_X11_401 : Cond.methodLink RX11 401 yX4_find ∈ lw_ok := lw_i7 105 rfl rfl
theorem wV_X4_find : Cond.instanceMethod yX4_find ∈ lw_ok := lw_i7 106 rfl rfl
theorem wL_X4_find : Cond.selects RX4 yX4_find yX4_find ∈ lw_ok := lw_i7 107 rfl rfl
theorem wK_X4_find : Cond.code yX4_find cX4_find 9 (some .int) ∈ lw_ok := lw_i7 108 rfl rfl
theorem wM_X11_408 : Cond.methodLink RX11 408 yX4_addWish ∈ lw_ok := lw_i7 109 rfl rfl
theorem wV_X4_addWish : Cond.instanceMethod yX4_addWish ∈ lw_ok := lw_i7 110 rfl rfl
theorem wL_X4_addWish : Cond.selects RX4 yX4_addWish yX4_addWish ∈ lw_ok := lw_i7 111 rfl rfl
theorem wK_X4_addWish : Cond.code yX4_addWish cX4_addWish 5 (some .int) ∈ lw_ok := lw_i7 112 rfl rfl
theorem wM_X4_46 : Cond.methodLink RX4 46 ⟨"java/lang/System", "arraycopy", "(Ljava/lang/Object;ILjava/lang/Object;II)V"⟩ ∈ lw_ok := lw_i7 113 rfl rfl
theorem wM_DomainHouseLaw_199 : Cond.methodLink "DomainHouseLaw" 199 yX11_rests ∈ lw_ok := lw_i7 114 rfl rfl
theorem wV_X11_rests : Cond.instanceMethod yX11_rests ∈ lw_ok := lw_i7 115 rfl rfl
theorem wL_X11_rests : Cond.selects RX11 yX11_rests yX11_rests ∈ lw_ok := lw_i7 116 rfl rfl
theorem wK_X11_rests : Cond.code yX11_rests cX11_rests 1 (some .int) ∈ lw_ok := lw_i7 117 rfl rfl
theorem wM_X11_411 : Cond.methodLink RX11 411 yX4_findRests ∈ lw_ok := lw_i7 118 rfl rfl
theorem wV_X4_findRests : Cond.instanceMethod yX4_findRests ∈ lw_ok := lw_i7 119 rfl rfl
theorem wL_X4_findRests : Cond.selects RX4 yX4_findRests yX4_findRests ∈ lw_ok := lw_i7 120 rfl rfl
theorem wK_X4_findRests : Cond.code yX4_findRests cX4_findRests 2 none ∈ lw_ok := lw_i7 121 rfl rfl
theorem wM_X4_79 : Cond.methodLink RX4 79 yX4_prepare ∈ lw_ok := lw_i7 122 rfl rfl
theorem wV_X4_prepare : Cond.instanceMethod yX4_prepare ∈ lw_ok := lw_i7 124 rfl rfl
theorem wK_X4_prepare : Cond.code yX4_prepare cX4_prepare 3 none ∈ lw_ok := lw_i7 125 rfl rfl
theorem wM_X4_63 : Cond.methodLink RX4 63 yX4_need ∈ lw_ok := lw_i7 126 rfl rfl
theorem wV_X4_need : Cond.instanceMethod yX4_need ∈ lw_ok := lw_i7 128 rfl rfl
theorem wK_X4_need : Cond.code yX4_need cX4_need 3 none ∈ lw_ok := lw_i7 129 rfl rfl
theorem wM_X4_67 : Cond.methodLink RX4 67 yX4_find ∈ lw_ok := lw_i7 130 rfl rfl
theorem wM_X4_85 : Cond.methodLink RX4 85 yX4_unfold ∈ lw_ok := lw_i7 131 rfl rfl
theorem wV_X4_unfold : Cond.instanceMethod yX4_unfold ∈ lw_ok := lw_i7 133 rfl rfl
theorem wK_X4_unfold : Cond.code yX4_unfold cX4_unfold 3 none ∈ lw_ok := lw_i7 134 rfl rfl
theorem wM_X4_75 : Cond.methodLink RX4 75 yX4_figure ∈ lw_ok := lw_i7 135 rfl rfl
theorem wV_X4_figure : Cond.instanceMethod yX4_figure ∈ lw_ok := lw_i7 137 rfl rfl
theorem wK_X4_figure : Cond.code yX4_figure cX4_figure 4 (some .int) ∈ lw_ok := lw_i7 138 rfl rfl
theorem wM_X4_88 : Cond.methodLink RX4 88 yX4_isRest ∈ lw_ok := lw_i7 139 rfl rfl
theorem wV_X4_isRest : Cond.instanceMethod yX4_isRest ∈ lw_ok := lw_i7 141 rfl rfl
theorem wK_X4_isRest : Cond.code yX4_isRest cX4_isRest 2 (some .boolean) ∈ lw_ok := lw_i7 142 rfl rfl
theorem wM_X4_71 : Cond.methodLink RX4 71 yX4_actOf ∈ lw_ok := lw_i7 143 rfl rfl
theorem wV_X4_actOf : Cond.instanceMethod yX4_actOf ∈ lw_ok := lw_i7 145 rfl rfl
theorem wK_X4_actOf : Cond.code yX4_actOf cX4_actOf 5 (some .int) ∈ lw_ok := lw_i7 146 rfl rfl
theorem wM_X4_92 : Cond.methodLink RX4 92 yX4_keepRest ∈ lw_ok := lw_i7 147 rfl rfl
theorem wV_X4_keepRest : Cond.instanceMethod yX4_keepRest ∈ lw_ok := lw_i7 149 rfl rfl
theorem wK_X4_keepRest : Cond.code yX4_keepRest cX4_keepRest 2 none ∈ lw_ok := lw_i7 150 rfl rfl
theorem wM_X4_98 : Cond.methodLink RX4 98 ⟨"java/util/Arrays", "copyOf", "([II)[I"⟩ ∈ lw_ok := lw_i7 151 rfl rfl
theorem wM_X4_95 : Cond.methodLink RX4 95 yX4_countUp ∈ lw_ok := lw_i7 152 rfl rfl
theorem wV_X4_countUp : Cond.instanceMethod yX4_countUp ∈ lw_ok := lw_i7 154 rfl rfl
theorem wK_X4_countUp : Cond.code yX4_countUp cX4_countUp 2 none ∈ lw_ok := lw_i7 155 rfl rfl
theorem wM_DomainHouseLaw_203 : Cond.methodLink "DomainHouseLaw" 203 yX11_rest ∈ lw_ok := lw_i7 156 rfl rfl
theorem wV_X11_rest : Cond.instanceMethod yX11_rest ∈ lw_ok := lw_i7 157 rfl rfl
theorem wL_X11_rest : Cond.selects RX11 yX11_rest yX11_rest ∈ lw_ok := lw_i7 158 rfl rfl
theorem wK_X11_rest : Cond.code yX11_rest cX11_rest 3 (some .int) ∈ lw_ok := lw_i7 159 rfl rfl
theorem wM_X11_417 : Cond.methodLink RX11 417 yX4_wayInRest ∈ lw_ok := lw_i7 160 rfl rfl
theorem wV_X4_wayInRest : Cond.instanceMethod yX4_wayInRest ∈ lw_ok := lw_i7 161 rfl rfl
theorem wL_X4_wayInRest : Cond.selects RX4 yX4_wayInRest yX4_wayInRest ∈ lw_ok := lw_i7 162 rfl rfl
theorem wK_X4_wayInRest : Cond.code yX4_wayInRest cX4_wayInRest 4 (some .int) ∈ lw_ok := lw_i7 163 rfl rfl
theorem wM_DomainHouseLaw_207 : Cond.methodLink "DomainHouseLaw" 207 yX11_tries ∈ lw_ok := lw_i7 164 rfl rfl
theorem wV_X11_tries : Cond.instanceMethod yX11_tries ∈ lw_ok := lw_i7 165 rfl rfl
theorem wL_X11_tries : Cond.selects RX11 yX11_tries yX11_tries ∈ lw_ok := lw_i7 166 rfl rfl
theorem wK_X11_tries : Cond.code yX11_tries cX11_tries 2 (some .int) ∈ lw_ok := lw_i7 167 rfl rfl
theorem wM_X11_420 : Cond.methodLink RX11 420 yX4_explore ∈ lw_ok := lw_i7 168 rfl rfl
theorem wV_X4_explore : Cond.instanceMethod yX4_explore ∈ lw_ok := lw_i7 169 rfl rfl
theorem wL_X4_explore : Cond.selects RX4 yX4_explore yX4_explore ∈ lw_ok := lw_i7 170 rfl rfl
theorem wK_X4_explore : Cond.code yX4_explore cX4_explore 3 none ∈ lw_ok := lw_i7 171 rfl rfl
theorem wM_X4_104 : Cond.methodLink RX4 104 yX4_makeRoom ∈ lw_ok := lw_i7 172 rfl rfl
theorem wV_X4_makeRoom : Cond.instanceMethod yX4_makeRoom ∈ lw_ok := lw_i7 174 rfl rfl
theorem wK_X4_makeRoom : Cond.code yX4_makeRoom cX4_makeRoom 2 none ∈ lw_ok := lw_i7 175 rfl rfl
theorem wM_X4_114 : Cond.methodLink RX4 114 ⟨"java/lang/Math", "max", "(II)I"⟩ ∈ lw_ok := lw_i7 176 rfl rfl
theorem wS_Math_max__II_I : Cond.static ⟨"java/lang/Math", "max", "(II)I"⟩ ∈ lw_ok := lw_i7 177 rfl rfl
theorem wM_X4_119 : Cond.methodLink RX4 119 ⟨"java/util/Arrays", "fill", "([BB)V"⟩ ∈ lw_ok := lw_i7 179 rfl rfl
theorem wS_Arrays_fill___BB_V : Cond.static ⟨"java/util/Arrays", "fill", "([BB)V"⟩ ∈ lw_ok := lw_i7 180 rfl rfl
theorem wM_X4_107 : Cond.methodLink RX4 107 yX4_spread ∈ lw_ok := lw_i7 182 rfl rfl
theorem wV_X4_spread : Cond.instanceMethod yX4_spread ∈ lw_ok := lw_i7 184 rfl rfl
theorem wK_X4_spread : Cond.code yX4_spread cX4_spread 5 (some .int) ∈ lw_ok := lw_i7 185 rfl rfl
theorem wG_X4_123 : Cond.constant RX4 123 (-99999999) ∈ lw_ok := lw_i7 186 rfl rfl
theorem wM_X4_124 : Cond.methodLink RX4 124 yX4_addNeighbours ∈ lw_ok := lw_i7 187 rfl rfl
theorem wV_X4_addNeighbours : Cond.instanceMethod yX4_addNeighbours ∈ lw_ok := lw_i7 189 rfl rfl
theorem wK_X4_addNeighbours : Cond.code yX4_addNeighbours cX4_addNeighbours 6 (some .int) ∈ lw_ok := lw_i7 190 rfl rfl
theorem wM_X4_111 : Cond.methodLink RX4 111 yX4_leadBack ∈ lw_ok := lw_i7 191 rfl rfl
theorem wV_X4_leadBack : Cond.instanceMethod yX4_leadBack ∈ lw_ok := lw_i7 193 rfl rfl
theorem wK_X4_leadBack : Cond.code yX4_leadBack cX4_leadBack 3 (some .int) ∈ lw_ok := lw_i7 194 rfl rfl
theorem wM_X4_127 : Cond.methodLink RX4 127 yX4_addSources ∈ lw_ok := lw_i7 195 rfl rfl
theorem wV_X4_addSources : Cond.instanceMethod yX4_addSources ∈ lw_ok := lw_i7 197 rfl rfl
theorem wK_X4_addSources : Cond.code yX4_addSources cX4_addSources 7 (some .int) ∈ lw_ok := lw_i7 198 rfl rfl
theorem wM_DomainHouseLaw_211 : Cond.methodLink "DomainHouseLaw" 211 yX11_count ∈ lw_ok := lw_i7 199 rfl rfl
theorem wV_X11_count : Cond.instanceMethod yX11_count ∈ lw_ok := lw_i7 200 rfl rfl
theorem wL_X11_count : Cond.selects RX11 yX11_count yX11_count ∈ lw_ok := lw_i7 201 rfl rfl
theorem wK_X11_count : Cond.code yX11_count cX11_count 2 (some .int) ∈ lw_ok := lw_i7 202 rfl rfl
theorem wM_DomainHouseLaw_17 : Cond.methodLink "DomainHouseLaw" 17 yX12_feed ∈ lw_ok := lw_i7 203 rfl rfl
theorem wV_X12_feed : Cond.instanceMethod yX12_feed ∈ lw_ok := lw_i7 204 rfl rfl
theorem wL_X12_feed : Cond.selects RX12 yX12_feed yX12_feed ∈ lw_ok := lw_i7 205 rfl rfl
theorem wK_X12_feed : Cond.code yX12_feed cX12_feed 8 (some .int) ∈ lw_ok := lw_i7 206 rfl rfl
theorem wM_DomainHouseLaw_22 : Cond.methodLink "DomainHouseLaw" 22 yX12_cut ∈ lw_ok := lw_i7 207 rfl rfl
theorem wV_X12_cut : Cond.instanceMethod yX12_cut ∈ lw_ok := lw_i7 208 rfl rfl
theorem wL_X12_cut : Cond.selects RX12 yX12_cut yX12_cut ∈ lw_ok := lw_i7 209 rfl rfl
theorem wK_X12_cut : Cond.code yX12_cut cX12_cut 3 (some .int) ∈ lw_ok := lw_i7 210 rfl rfl
theorem wM_DomainHouseLaw_27 : Cond.methodLink "DomainHouseLaw" 27 yX12_prefix ∈ lw_ok := lw_i7 211 rfl rfl
theorem wV_X12_prefix : Cond.instanceMethod yX12_prefix ∈ lw_ok := lw_i7 212 rfl rfl
theorem wL_X12_prefix : Cond.selects RX12 yX12_prefix yX12_prefix ∈ lw_ok := lw_i7 213 rfl rfl
theorem wK_X12_prefix : Cond.code yX12_prefix cX12_prefix 3 (some .int) ∈ lw_ok := lw_i7 214 rfl rfl
theorem wM_X12_18 : Cond.methodLink RX12 18 yX12_in ∈ lw_ok := lw_i7 215 rfl rfl
theorem wS_X12_in : Cond.static yX12_in ∈ lw_ok := lw_i7 216 rfl rfl
theorem wK_X12_in : Cond.code yX12_in cX12_in 3 (some .boolean) ∈ lw_ok := lw_i7 217 rfl rfl
theorem wM_X12_11 : Cond.methodLink RX12 11 yX12_mask ∈ lw_ok := lw_i7 218 rfl rfl
theorem wS_X12_mask : Cond.static yX12_mask ∈ lw_ok := lw_i7 219 rfl rfl
theorem wK_X12_mask : Cond.code yX12_mask cX12_mask 1 (some .int) ∈ lw_ok := lw_i7 220 rfl rfl
theorem wM_X12_30 : Cond.methodLink RX12 30 yX12_prefixOf ∈ lw_ok := lw_i7 221 rfl rfl
theorem wV_X12_prefixOf : Cond.instanceMethod yX12_prefixOf ∈ lw_ok := lw_i7 223 rfl rfl
theorem wN_X12 : Cond.instantiable RX12 126 ∈ lw_ok := lw_i7 224 rfl rfl
theorem wK_X12_prefixOf : Cond.code yX12_prefixOf cX12_prefixOf 4 (some .int) ∈ lw_ok := lw_i7 225 rfl rfl
theorem wG_X12_29 : Cond.constant RX12 29 (-99999999) ∈ lw_ok := lw_i7 226 rfl rfl
theorem wM_DomainHouseLaw_32 : Cond.methodLink "DomainHouseLaw" 32 yX12_domain ∈ lw_ok := lw_i7 227 rfl rfl
theorem wV_X12_domain : Cond.instanceMethod yX12_domain ∈ lw_ok := lw_i7 228 rfl rfl
theorem wL_X12_domain : Cond.selects RX12 yX12_domain yX12_domain ∈ lw_ok := lw_i7 229 rfl rfl
theorem wK_X12_domain : Cond.code yX12_domain cX12_domain 1 (some .int) ∈ lw_ok := lw_i7 230 rfl rfl
theorem wM_DomainHouseLaw_37 : Cond.methodLink "DomainHouseLaw" 37 yX12_tie ∈ lw_ok := lw_i7 231 rfl rfl
theorem wV_X12_tie : Cond.instanceMethod yX12_tie ∈ lw_ok := lw_i7 232 rfl rfl
theorem wL_X12_tie : Cond.selects RX12 yX12_tie yX12_tie ∈ lw_ok := lw_i7 233 rfl rfl
theorem wK_X12_tie : Cond.code yX12_tie cX12_tie 5 (some .int) ∈ lw_ok := lw_i7 234 rfl rfl
theorem wM_X12_49 : Cond.methodLink RX12 49 yX12_isDomain ∈ lw_ok := lw_i7 235 rfl rfl
theorem wV_X12_isDomain : Cond.instanceMethod yX12_isDomain ∈ lw_ok := lw_i7 237 rfl rfl
theorem wK_X12_isDomain : Cond.code yX12_isDomain cX12_isDomain 2 (some .boolean) ∈ lw_ok := lw_i7 238 rfl rfl
theorem wM_X12_43 : Cond.methodLink RX12 43 yX12_tieOf ∈ lw_ok := lw_i7 239 rfl rfl
theorem wV_X12_tieOf : Cond.instanceMethod yX12_tieOf ∈ lw_ok := lw_i8 1 rfl rfl
theorem wK_X12_tieOf : Cond.code yX12_tieOf cX12_tieOf 4 (some .int) ∈ lw_ok := lw_i8 2 rfl rfl
theorem wM_DomainHouseLaw_41 : Cond.methodLink "DomainHouseLaw" 41 yX12_pace ∈ lw_ok := lw_i8 3 rfl rfl
theorem wV_X12_pace : Cond.instanceMethod yX12_pace ∈ lw_ok := lw_i8 4 rfl rfl
theorem wL_X12_pace : Cond.selects RX12 yX12_pace yX12_pace ∈ lw_ok := lw_i8 5 rfl rfl
theorem wK_X12_pace : Cond.code yX12_pace cX12_pace 4 (some .int) ∈ lw_ok := lw_i8 6 rfl rfl
theorem wM_X12_66 : Cond.methodLink RX12 66 yX12_isTie ∈ lw_ok := lw_i8 7 rfl rfl
theorem wV_X12_isTie : Cond.instanceMethod yX12_isTie ∈ lw_ok := lw_i8 9 rfl rfl
theorem wK_X12_isTie : Cond.code yX12_isTie cX12_isTie 2 (some .boolean) ∈ lw_ok := lw_i8 10 rfl rfl
theorem wM_DomainHouseLaw_50 : Cond.methodLink "DomainHouseLaw" 50 yX12_cone ∈ lw_ok := lw_i8 11 rfl rfl
theorem wV_X12_cone : Cond.instanceMethod yX12_cone ∈ lw_ok := lw_i8 12 rfl rfl
theorem wL_X12_cone : Cond.selects RX12 yX12_cone yX12_cone ∈ lw_ok := lw_i8 13 rfl rfl
theorem wK_X12_cone : Cond.code yX12_cone cX12_cone 6 (some .int) ∈ lw_ok := lw_i8 14 rfl rfl
theorem wM_DomainHouseLaw_54 : Cond.methodLink "DomainHouseLaw" 54 yX12_ring ∈ lw_ok := lw_i8 15 rfl rfl
theorem wV_X12_ring : Cond.instanceMethod yX12_ring ∈ lw_ok := lw_i8 16 rfl rfl
theorem wL_X12_ring : Cond.selects RX12 yX12_ring yX12_ring ∈ lw_ok := lw_i8 17 rfl rfl
theorem wK_X12_ring : Cond.code yX12_ring cX12_ring 8 (some .int) ∈ lw_ok := lw_i8 18 rfl rfl
theorem wM_X12_75 : Cond.methodLink RX12 75 yX12_provides ∈ lw_ok := lw_i8 19 rfl rfl
theorem wV_X12_provides : Cond.instanceMethod yX12_provides ∈ lw_ok := lw_i8 21 rfl rfl
theorem wK_X12_provides : Cond.code yX12_provides cX12_provides 4 (some .boolean) ∈ lw_ok := lw_i8 22 rfl rfl
theorem wM_DomainHouseLaw_58 : Cond.methodLink "DomainHouseLaw" 58 yX12_walk ∈ lw_ok := lw_i8 23 rfl rfl
theorem wV_X12_walk : Cond.instanceMethod yX12_walk ∈ lw_ok := lw_i8 24 rfl rfl
theorem wL_X12_walk : Cond.selects RX12 yX12_walk yX12_walk ∈ lw_ok := lw_i8 25 rfl rfl
theorem wK_X12_walk : Cond.code yX12_walk cX12_walk 2 (some .int) ∈ lw_ok := lw_i8 26 rfl rfl
theorem wM_DomainHouseLaw_62 : Cond.methodLink "DomainHouseLaw" 62 yX12_letWay ∈ lw_ok := lw_i8 27 rfl rfl
theorem wV_X12_letWay : Cond.instanceMethod yX12_letWay ∈ lw_ok := lw_i8 28 rfl rfl
theorem wL_X12_letWay : Cond.selects RX12 yX12_letWay yX12_letWay ∈ lw_ok := lw_i8 29 rfl rfl
theorem wK_X12_letWay : Cond.code yX12_letWay cX12_letWay 5 (some .int) ∈ lw_ok := lw_i8 30 rfl rfl
theorem wM_DomainHouseLaw_66 : Cond.methodLink "DomainHouseLaw" 66 yX12_today ∈ lw_ok := lw_i8 31 rfl rfl
theorem wV_X12_today : Cond.instanceMethod yX12_today ∈ lw_ok := lw_i8 32 rfl rfl
theorem wL_X12_today : Cond.selects RX12 yX12_today yX12_today ∈ lw_ok := lw_i8 33 rfl rfl
theorem wK_X12_today : Cond.code yX12_today cX12_today 3 (some .int) ∈ lw_ok := lw_i8 34 rfl rfl
theorem wM_X12_88 : Cond.methodLink RX12 88 yX12_rethink ∈ lw_ok := lw_i8 35 rfl rfl
theorem wV_X12_rethink : Cond.instanceMethod yX12_rethink ∈ lw_ok := lw_i8 37 rfl rfl
theorem wK_X12_rethink : Cond.code yX12_rethink cX12_rethink 3 none ∈ lw_ok := lw_i8 38 rfl rfl
theorem wM_X12_600 : Cond.methodLink RX12 600 yX12_lookAll ∈ lw_ok := lw_i8 39 rfl rfl
theorem wV_X12_lookAll : Cond.instanceMethod yX12_lookAll ∈ lw_ok := lw_i8 41 rfl rfl
theorem wK_X12_lookAll : Cond.code yX12_lookAll cX12_lookAll 3 none ∈ lw_ok := lw_i8 42 rfl rfl
theorem wM_X12_597 : Cond.methodLink RX12 597 yX12_look ∈ lw_ok := lw_i8 43 rfl rfl
theorem wV_X12_look : Cond.instanceMethod yX12_look ∈ lw_ok := lw_i8 45 rfl rfl
theorem wK_X12_look : Cond.code yX12_look cX12_look 6 none ∈ lw_ok := lw_i8 46 rfl rfl
theorem wM_X12_581 : Cond.methodLink RX12 581 yX12_pick ∈ lw_ok := lw_i8 47 rfl rfl
theorem wV_X12_pick : Cond.instanceMethod yX12_pick ∈ lw_ok := lw_i8 49 rfl rfl
theorem wK_X12_pick : Cond.code yX12_pick cX12_pick 11 (some .int) ∈ lw_ok := lw_i8 50 rfl rfl
theorem wM_X12_572 : Cond.methodLink RX12 572 yX12_candidates ∈ lw_ok := lw_i8 51 rfl rfl
theorem wV_X12_candidates : Cond.instanceMethod yX12_candidates ∈ lw_ok := lw_i8 53 rfl rfl
theorem wK_X12_candidates : Cond.code yX12_candidates cX12_candidates 4 none ∈ lw_ok := lw_i8 54 rfl rfl
theorem wM_X12_562 : Cond.methodLink RX12 562 yX12_isAt ∈ lw_ok := lw_i8 55 rfl rfl
theorem wV_X12_isAt : Cond.instanceMethod yX12_isAt ∈ lw_ok := lw_i8 57 rfl rfl
theorem wK_X12_isAt : Cond.code yX12_isAt cX12_isAt 3 (some .boolean) ∈ lw_ok := lw_i8 58 rfl rfl
theorem wM_X12_565 : Cond.methodLink RX12 565 yX12_candidate ∈ lw_ok := lw_i8 59 rfl rfl
theorem wV_X12_candidate : Cond.instanceMethod yX12_candidate ∈ lw_ok := lw_i8 61 rfl rfl
theorem wK_X12_candidate : Cond.code yX12_candidate cX12_candidate 6 (some .int) ∈ lw_ok := lw_i8 62 rfl rfl
theorem wM_X12_542 : Cond.methodLink RX12 542 yX12_sideOf ∈ lw_ok := lw_i8 63 rfl rfl
theorem wV_X12_sideOf : Cond.instanceMethod yX12_sideOf ∈ lw_ok := lw_i8 65 rfl rfl
theorem wK_X12_sideOf : Cond.code yX12_sideOf cX12_sideOf 3 (some .int) ∈ lw_ok := lw_i8 66 rfl rfl
theorem wM_X12_539 : Cond.methodLink RX12 539 yX12_nothing ∈ lw_ok := lw_i8 67 rfl rfl
theorem wV_X12_nothing : Cond.instanceMethod yX12_nothing ∈ lw_ok := lw_i8 69 rfl rfl
theorem wK_X12_nothing : Cond.code yX12_nothing cX12_nothing 2 none ∈ lw_ok := lw_i8 70 rfl rfl
theorem wM_X12_545 : Cond.methodLink RX12 545 yX12_slot ∈ lw_ok := lw_i8 71 rfl rfl
theorem wS_X12_slot : Cond.static yX12_slot ∈ lw_ok := lw_i8 72 rfl rfl
theorem wK_X12_slot : Cond.code yX12_slot cX12_slot 3 (some .int) ∈ lw_ok := lw_i8 73 rfl rfl
theorem wM_X12_151 : Cond.methodLink RX12 151 yX12_isThere ∈ lw_ok := lw_i8 74 rfl rfl
theorem wV_X12_isThere : Cond.instanceMethod yX12_isThere ∈ lw_ok := lw_i8 76 rfl rfl
theorem wK_X12_isThere : Cond.code yX12_isThere cX12_isThere 2 (some .boolean) ∈ lw_ok := lw_i8 77 rfl rfl
theorem wM_X12_556 : Cond.methodLink RX12 556 yX12_isIn ∈ lw_ok := lw_i8 78 rfl rfl
theorem wV_X12_isIn : Cond.instanceMethod yX12_isIn ∈ lw_ok := lw_i8 80 rfl rfl
theorem wK_X12_isIn : Cond.code yX12_isIn cX12_isIn 5 (some .boolean) ∈ lw_ok := lw_i8 81 rfl rfl
theorem wM_X12_559 : Cond.methodLink RX12 559 yX12_copy ∈ lw_ok := lw_i8 82 rfl rfl
theorem wV_X12_copy : Cond.instanceMethod yX12_copy ∈ lw_ok := lw_i8 84 rfl rfl
theorem wK_X12_copy : Cond.code yX12_copy cX12_copy 4 none ∈ lw_ok := lw_i8 85 rfl rfl
theorem wM_X12_553 : Cond.methodLink RX12 553 yX12_partnerOf ∈ lw_ok := lw_i8 86 rfl rfl
theorem wV_X12_partnerOf : Cond.instanceMethod yX12_partnerOf ∈ lw_ok := lw_i8 88 rfl rfl
theorem wK_X12_partnerOf : Cond.code yX12_partnerOf cX12_partnerOf 3 (some .int) ∈ lw_ok := lw_i8 89 rfl rfl
theorem wM_X12_414 : Cond.methodLink RX12 414 yX12_through ∈ lw_ok := lw_i8 90 rfl rfl
theorem wV_X12_through : Cond.instanceMethod yX12_through ∈ lw_ok := lw_i8 92 rfl rfl
theorem wK_X12_through : Cond.code yX12_through cX12_through 14 (some .boolean) ∈ lw_ok := lw_i8 93 rfl rfl
theorem wM_X12_397 : Cond.methodLink RX12 397 yX12_isSo ∈ lw_ok := lw_i8 94 rfl rfl
theorem wV_X12_isSo : Cond.instanceMethod yX12_isSo ∈ lw_ok := lw_i8 96 rfl rfl
theorem wK_X12_isSo : Cond.code yX12_isSo cX12_isSo 10 (some .boolean) ∈ lw_ok := lw_i8 97 rfl rfl
theorem wM_X12_142 : Cond.methodLink RX12 142 yX12_holds ∈ lw_ok := lw_i8 98 rfl rfl
theorem wS_X12_holds : Cond.static yX12_holds ∈ lw_ok := lw_i8 99 rfl rfl
theorem wK_X12_holds : Cond.code yX12_holds cX12_holds 3 (some .boolean) ∈ lw_ok := lw_i8 100 rfl rfl
theorem wM_X12_379 : Cond.methodLink RX12 379 yX12_waysMatch ∈ lw_ok := lw_i8 101 rfl rfl
theorem wV_X12_waysMatch : Cond.instanceMethod yX12_waysMatch ∈ lw_ok := lw_i8 103 rfl rfl
theorem wK_X12_waysMatch : Cond.code yX12_waysMatch cX12_waysMatch 11 (some .boolean) ∈ lw_ok := lw_i8 104 rfl rfl
theorem wM_X12_154 : Cond.methodLink RX12 154 yX12_marked ∈ lw_ok := lw_i8 105 rfl rfl
theorem wV_X12_marked : Cond.instanceMethod yX12_marked ∈ lw_ok := lw_i8 107 rfl rfl
theorem wK_X12_marked : Cond.code yX12_marked cX12_marked 5 (some .boolean) ∈ lw_ok := lw_i8 108 rfl rfl
theorem wM_X12_382 : Cond.methodLink RX12 382 yX12_tieWord ∈ lw_ok := lw_i8 109 rfl rfl
theorem wV_X12_tieWord : Cond.instanceMethod yX12_tieWord ∈ lw_ok := lw_i8 111 rfl rfl
theorem wK_X12_tieWord : Cond.code yX12_tieWord cX12_tieWord 4 (some .int) ∈ lw_ok := lw_i8 112 rfl rfl
theorem wM_X12_385 : Cond.methodLink RX12 385 yX12_related ∈ lw_ok := lw_i8 113 rfl rfl
theorem wV_X12_related : Cond.instanceMethod yX12_related ∈ lw_ok := lw_i8 115 rfl rfl
theorem wK_X12_related : Cond.code yX12_related cX12_related 4 (some .boolean) ∈ lw_ok := lw_i8 116 rfl rfl
theorem wM_X12_145 : Cond.methodLink RX12 145 yX12_judged ∈ lw_ok := lw_i8 117 rfl rfl
theorem wV_X12_judged : Cond.instanceMethod yX12_judged ∈ lw_ok := lw_i8 119 rfl rfl
theorem wK_X12_judged : Cond.code yX12_judged cX12_judged 5 (some .int) ∈ lw_ok := lw_i8 120 rfl rfl
theorem wM_X12_135 : Cond.methodLink RX12 135 yX12_judgedAnew ∈ lw_ok := lw_i8 121 rfl rfl
theorem wV_X12_judgedAnew : Cond.instanceMethod yX12_judgedAnew ∈ lw_ok := lw_i8 123 rfl rfl
theorem wK_X12_judgedAnew : Cond.code yX12_judgedAnew cX12_judgedAnew 9 (some .int) ∈ lw_ok := lw_i8 124 rfl rfl
theorem wM_X12_401 : Cond.methodLink RX12 401 yX12_addMark ∈ lw_ok := lw_i8 125 rfl rfl
theorem wV_X12_addMark : Cond.instanceMethod yX12_addMark ∈ lw_ok := lw_i8 127 rfl rfl
theorem wK_X12_addMark : Cond.code yX12_addMark cX12_addMark 5 none ∈ lw_ok := lw_i8 128 rfl rfl
theorem wM_X12_405 : Cond.methodLink RX12 405 yX12_dropMark ∈ lw_ok := lw_i8 129 rfl rfl
theorem wV_X12_dropMark : Cond.instanceMethod yX12_dropMark ∈ lw_ok := lw_i8 131 rfl rfl
theorem wK_X12_dropMark : Cond.code yX12_dropMark cX12_dropMark 6 none ∈ lw_ok := lw_i8 132 rfl rfl
theorem wM_X12_408 : Cond.methodLink RX12 408 yX12_front ∈ lw_ok := lw_i8 133 rfl rfl
theorem wV_X12_front : Cond.instanceMethod yX12_front ∈ lw_ok := lw_i8 135 rfl rfl
theorem wK_X12_front : Cond.code yX12_front cX12_front 5 (some .boolean) ∈ lw_ok := lw_i8 136 rfl rfl
theorem wM_X12_575 : Cond.methodLink RX12 575 yX12_best ∈ lw_ok := lw_i8 137 rfl rfl
theorem wV_X12_best : Cond.instanceMethod yX12_best ∈ lw_ok := lw_i8 139 rfl rfl
theorem wK_X12_best : Cond.code yX12_best cX12_best 5 (some .int) ∈ lw_ok := lw_i8 140 rfl rfl
theorem wM_X12_568 : Cond.methodLink RX12 568 yX12_beats ∈ lw_ok := lw_i8 141 rfl rfl
theorem wV_X12_beats : Cond.instanceMethod yX12_beats ∈ lw_ok := lw_i8 143 rfl rfl
theorem wK_X12_beats : Cond.code yX12_beats cX12_beats 6 (some .boolean) ∈ lw_ok := lw_i8 144 rfl rfl
theorem wM_X12_549 : Cond.methodLink RX12 549 yX12_unlike ∈ lw_ok := lw_i8 145 rfl rfl
theorem wV_X12_unlike : Cond.instanceMethod yX12_unlike ∈ lw_ok := lw_i8 147 rfl rfl
theorem wK_X12_unlike : Cond.code yX12_unlike cX12_unlike 13 (some .int) ∈ lw_ok := lw_i8 148 rfl rfl
theorem wM_X12_578 : Cond.methodLink RX12 578 yX12_isBelow ∈ lw_ok := lw_i8 149 rfl rfl
theorem wS_X12_isBelow : Cond.static yX12_isBelow ∈ lw_ok := lw_i8 150 rfl rfl
theorem wK_X12_isBelow : Cond.code yX12_isBelow cX12_isBelow 2 (some .boolean) ∈ lw_ok := lw_i8 151 rfl rfl
theorem wG_X12_571 : Cond.constant RX12 571 (-2147483648) ∈ lw_ok := lw_i8 152 rfl rfl
theorem wM_X12_584 : Cond.methodLink RX12 584 yX12_same ∈ lw_ok := lw_i8 153 rfl rfl
theorem wV_X12_same : Cond.instanceMethod yX12_same ∈ lw_ok := lw_i8 155 rfl rfl
theorem wK_X12_same : Cond.code yX12_same cX12_same 5 (some .boolean) ∈ lw_ok := lw_i8 156 rfl rfl
theorem wM_X12_587 : Cond.methodLink RX12 587 yX12_say ∈ lw_ok := lw_i8 157 rfl rfl
theorem wV_X12_say : Cond.instanceMethod yX12_say ∈ lw_ok := lw_i8 159 rfl rfl
theorem wK_X12_say : Cond.code yX12_say cX12_say 8 none ∈ lw_ok := lw_i8 160 rfl rfl
theorem wM_X12_603 : Cond.methodLink RX12 603 yX12_sayAll ∈ lw_ok := lw_i8 161 rfl rfl
theorem wV_X12_sayAll : Cond.instanceMethod yX12_sayAll ∈ lw_ok := lw_i8 163 rfl rfl
theorem wK_X12_sayAll : Cond.code yX12_sayAll cX12_sayAll 4 none ∈ lw_ok := lw_i8 164 rfl rfl
theorem wM_DomainHouseLaw_71 : Cond.methodLink "DomainHouseLaw" 71 yX12_right ∈ lw_ok := lw_i8 165 rfl rfl
theorem wV_X12_right : Cond.instanceMethod yX12_right ∈ lw_ok := lw_i8 166 rfl rfl
theorem wL_X12_right : Cond.selects RX12 yX12_right yX12_right ∈ lw_ok := lw_i8 167 rfl rfl
theorem wK_X12_right : Cond.code yX12_right cX12_right 7 (some .int) ∈ lw_ok := lw_i8 168 rfl rfl
theorem wM_X12_92 : Cond.methodLink RX12 92 yX12_isPrefix ∈ lw_ok := lw_i8 169 rfl rfl
theorem wV_X12_isPrefix : Cond.instanceMethod yX12_isPrefix ∈ lw_ok := lw_i8 171 rfl rfl
theorem wK_X12_isPrefix : Cond.code yX12_isPrefix cX12_isPrefix 2 (some .boolean) ∈ lw_ok := lw_i8 172 rfl rfl
theorem wM_DomainHouseLaw_75 : Cond.methodLink "DomainHouseLaw" 75 yX12_strike ∈ lw_ok := lw_i8 173 rfl rfl
theorem wV_X12_strike : Cond.instanceMethod yX12_strike ∈ lw_ok := lw_i8 174 rfl rfl
theorem wL_X12_strike : Cond.selects RX12 yX12_strike yX12_strike ∈ lw_ok := lw_i8 175 rfl rfl
theorem wK_X12_strike : Cond.code yX12_strike cX12_strike 3 (some .int) ∈ lw_ok := lw_i8 176 rfl rfl
theorem wM_DomainHouseLaw_80 : Cond.methodLink "DomainHouseLaw" 80 yX12_verdict ∈ lw_ok := lw_i8 177 rfl rfl
theorem wV_X12_verdict : Cond.instanceMethod yX12_verdict ∈ lw_ok := lw_i8 178 rfl rfl
theorem wL_X12_verdict : Cond.selects RX12 yX12_verdict yX12_verdict ∈ lw_ok := lw_i8 179 rfl rfl
theorem wK_X12_verdict : Cond.code yX12_verdict cX12_verdict 5 (some .int) ∈ lw_ok := lw_i8 180 rfl rfl
theorem wM_DomainHouseLaw_84 : Cond.methodLink "DomainHouseLaw" 84 yX12_policy ∈ lw_ok := lw_i8 181 rfl rfl
theorem wV_X12_policy : Cond.instanceMethod yX12_policy ∈ lw_ok := lw_i8 182 rfl rfl
theorem wL_X12_policy : Cond.selects RX12 yX12_policy yX12_policy ∈ lw_ok := lw_i8 183 rfl rfl
theorem wK_X12_policy : Cond.code yX12_policy cX12_policy 1 (some .int) ∈ lw_ok := lw_i8 184 rfl rfl
theorem wM_X12_247 : Cond.methodLink RX12 247 yX12_next ∈ lw_ok := lw_i8 185 rfl rfl
theorem wV_X12_next : Cond.instanceMethod yX12_next ∈ lw_ok := lw_i8 187 rfl rfl
theorem wK_X12_next : Cond.code yX12_next cX12_next 6 none ∈ lw_ok := lw_i8 188 rfl rfl
theorem wM_X12_227 : Cond.methodLink RX12 227 yX12_byteAt ∈ lw_ok := lw_i8 189 rfl rfl
theorem wV_X12_byteAt : Cond.instanceMethod yX12_byteAt ∈ lw_ok := lw_i8 191 rfl rfl
theorem wK_X12_byteAt : Cond.code yX12_byteAt cX12_byteAt 2 (some .int) ∈ lw_ok := lw_i8 192 rfl rfl
theorem wM_X12_236 : Cond.methodLink RX12 236 yX12_wordOf ∈ lw_ok := lw_i8 193 rfl rfl
theorem wS_X12_wordOf : Cond.static yX12_wordOf ∈ lw_ok := lw_i8 194 rfl rfl
theorem wK_X12_wordOf : Cond.code yX12_wordOf cX12_wordOf 2 (some .int) ∈ lw_ok := lw_i8 195 rfl rfl
theorem wH_X12_157 : Cond.constantLong RX12 157 (26217) ∈ lw_ok := lw_i8 196 rfl rfl
theorem wH_X12_159 : Cond.constantLong RX12 159 (6581857) ∈ lw_ok := lw_i8 197 rfl rfl
theorem wH_X12_161 : Cond.constantLong RX12 161 (1852139636) ∈ lw_ok := lw_i8 198 rfl rfl
theorem wH_X12_163 : Cond.constantLong RX12 163 (7630702) ∈ lw_ok := lw_i8 199 rfl rfl
theorem wH_X12_165 : Cond.constantLong RX12 165 (28265) ∈ lw_ok := lw_i8 200 rfl rfl
theorem wH_X12_167 : Cond.constantLong RX12 167 (28532) ∈ lw_ok := lw_i8 201 rfl rfl
theorem wH_X12_169 : Cond.constantLong RX12 169 (7954807) ∈ lw_ok := lw_i8 202 rfl rfl
theorem wH_X12_171 : Cond.constantLong RX12 171 (7958113) ∈ lw_ok := lw_i8 203 rfl rfl
theorem wH_X12_173 : Cond.constantLong RX12 173 (1802658157) ∈ lw_ok := lw_i8 204 rfl rfl
theorem wH_X12_175 : Cond.constantLong RX12 175 (1836020326) ∈ lw_ok := lw_i8 205 rfl rfl
theorem wH_X12_177 : Cond.constantLong RX12 177 (6646132) ∈ lw_ok := lw_i8 206 rfl rfl
theorem wH_X12_179 : Cond.constantLong RX12 179 (114849160783212) ∈ lw_ok := lw_i8 207 rfl rfl
theorem wH_X12_181 : Cond.constantLong RX12 181 (1752394103) ∈ lw_ok := lw_i8 208 rfl rfl
theorem wH_X12_183 : Cond.constantLong RX12 183 (1953722211) ∈ lw_ok := lw_i8 209 rfl rfl
theorem wH_X12_185 : Cond.constantLong RX12 185 (121398985585263) ∈ lw_ok := lw_i8 210 rfl rfl
theorem wH_X12_187 : Cond.constantLong RX12 187 (499967814002) ∈ lw_ok := lw_i8 211 rfl rfl
theorem wH_X12_189 : Cond.constantLong RX12 189 (8243115018434082147) ∈ lw_ok := lw_i8 212 rfl rfl
theorem wH_X12_191 : Cond.constantLong RX12 191 (8243105097092919920) ∈ lw_ok := lw_i8 213 rfl rfl
theorem wH_X12_193 : Cond.constantLong RX12 193 (465491554661) ∈ lw_ok := lw_i8 214 rfl rfl
theorem wH_X12_195 : Cond.constantLong RX12 195 (7235947) ∈ lw_ok := lw_i8 215 rfl rfl
theorem wH_X12_197 : Cond.constantLong RX12 197 (431265440118) ∈ lw_ok := lw_i8 216 rfl rfl
theorem wH_X12_199 : Cond.constantLong RX12 199 (31093567915781749) ∈ lw_ok := lw_i8 217 rfl rfl
theorem wH_X12_201 : Cond.constantLong RX12 201 (6578530) ∈ lw_ok := lw_i8 218 rfl rfl
theorem wH_X12_203 : Cond.constantLong RX12 203 (7628140) ∈ lw_ok := lw_i8 219 rfl rfl
theorem wH_X12_205 : Cond.constantLong RX12 205 (7496034) ∈ lw_ok := lw_i8 220 rfl rfl
theorem wH_X12_207 : Cond.constantLong RX12 207 (6579297) ∈ lw_ok := lw_i8 221 rfl rfl
theorem wH_X12_209 : Cond.constantLong RX12 209 (1886351972) ∈ lw_ok := lw_i8 222 rfl rfl
theorem wH_X12_211 : Cond.constantLong RX12 211 (1701998445) ∈ lw_ok := lw_i8 223 rfl rfl
theorem wH_X12_213 : Cond.constantLong RX12 213 (1819042147) ∈ lw_ok := lw_i8 224 rfl rfl
theorem wM_X12_240 : Cond.methodLink RX12 240 yX12_wrong ∈ lw_ok := lw_i8 225 rfl rfl
theorem wV_X12_wrong : Cond.instanceMethod yX12_wrong ∈ lw_ok := lw_i8 227 rfl rfl
theorem wK_X12_wrong : Cond.code yX12_wrong cX12_wrong 2 none ∈ lw_ok := lw_i8 228 rfl rfl
theorem wM_X12_373 : Cond.methodLink RX12 373 yX12_rowRead ∈ lw_ok := lw_i8 229 rfl rfl
theorem wV_X12_rowRead : Cond.instanceMethod yX12_rowRead ∈ lw_ok := lw_i8 231 rfl rfl
theorem wK_X12_rowRead : Cond.code yX12_rowRead cX12_rowRead 3 none ∈ lw_ok := lw_i8 232 rfl rfl
theorem wM_X12_288 : Cond.methodLink RX12 288 yX12_isWord ∈ lw_ok := lw_i8 233 rfl rfl
theorem wV_X12_isWord : Cond.instanceMethod yX12_isWord ∈ lw_ok := lw_i8 235 rfl rfl
theorem wK_X12_isWord : Cond.code yX12_isWord cX12_isWord 2 (some .boolean) ∈ lw_ok := lw_i8 236 rfl rfl
theorem wM_X12_367 : Cond.methodLink RX12 367 yX12_test ∈ lw_ok := lw_i8 237 rfl rfl
theorem wV_X12_test : Cond.instanceMethod yX12_test ∈ lw_ok := lw_i8 239 rfl rfl
theorem wK_X12_test : Cond.code yX12_test cX12_test 4 none ∈ lw_ok := lw_i9 0 rfl rfl
theorem wM_X12_332 : Cond.methodLink RX12 332 yX12_addressRead ∈ lw_ok := lw_i9 1 rfl rfl
theorem wV_X12_addressRead : Cond.instanceMethod yX12_addressRead ∈ lw_ok := lw_i9 3 rfl rfl
theorem wK_X12_addressRead : Cond.code yX12_addressRead cX12_addressRead 3 (some .int) ∈ lw_ok := lw_i9 4 rfl rfl
theorem wM_X12_314 : Cond.methodLink RX12 314 yX12_within ∈ lw_ok := lw_i9 5 rfl rfl
theorem wV_X12_within : Cond.instanceMethod yX12_within ∈ lw_ok := lw_i9 7 rfl rfl
theorem wK_X12_within : Cond.code yX12_within cX12_within 4 (some .int) ∈ lw_ok := lw_i9 8 rfl rfl
theorem wM_X12_317 : Cond.methodLink RX12 317 yX12_sign ∈ lw_ok := lw_i9 9 rfl rfl
theorem wV_X12_sign : Cond.instanceMethod yX12_sign ∈ lw_ok := lw_i9 11 rfl rfl
theorem wK_X12_sign : Cond.code yX12_sign cX12_sign 2 none ∈ lw_ok := lw_i9 12 rfl rfl
theorem wM_X12_244 : Cond.methodLink RX12 244 yX12_isSign ∈ lw_ok := lw_i9 13 rfl rfl
theorem wV_X12_isSign : Cond.instanceMethod yX12_isSign ∈ lw_ok := lw_i9 15 rfl rfl
theorem wK_X12_isSign : Cond.code yX12_isSign cX12_isSign 2 (some .boolean) ∈ lw_ok := lw_i9 16 rfl rfl
theorem wM_X12_342 : Cond.methodLink RX12 342 yX12_wayTest ∈ lw_ok := lw_i9 17 rfl rfl
theorem wV_X12_wayTest : Cond.instanceMethod yX12_wayTest ∈ lw_ok := lw_i9 19 rfl rfl
theorem wK_X12_wayTest : Cond.code yX12_wayTest cX12_wayTest 3 none ∈ lw_ok := lw_i9 20 rfl rfl
theorem wM_X12_285 : Cond.methodLink RX12 285 yX12_openLevel ∈ lw_ok := lw_i9 21 rfl rfl
theorem wV_X12_openLevel : Cond.instanceMethod yX12_openLevel ∈ lw_ok := lw_i9 23 rfl rfl
theorem wK_X12_openLevel : Cond.code yX12_openLevel cX12_openLevel 1 none ∈ lw_ok := lw_i9 24 rfl rfl
theorem wM_X12_263 : Cond.methodLink RX12 263 yX12_freshRow ∈ lw_ok := lw_i9 25 rfl rfl
theorem wV_X12_freshRow : Cond.instanceMethod yX12_freshRow ∈ lw_ok := lw_i9 27 rfl rfl
theorem wK_X12_freshRow : Cond.code yX12_freshRow cX12_freshRow 1 none ∈ lw_ok := lw_i9 28 rfl rfl
theorem wG_X12_291 : Cond.constant RX12 291 (1000000) ∈ lw_ok := lw_i9 29 rfl rfl
theorem wM_X12_298 : Cond.methodLink RX12 298 yX12_piece ∈ lw_ok := lw_i9 30 rfl rfl
theorem wV_X12_piece : Cond.instanceMethod yX12_piece ∈ lw_ok := lw_i9 32 rfl rfl
theorem wK_X12_piece : Cond.code yX12_piece cX12_piece 8 none ∈ lw_ok := lw_i9 33 rfl rfl
theorem wM_X12_281 : Cond.methodLink RX12 281 yX12_follows ∈ lw_ok := lw_i9 34 rfl rfl
theorem wV_X12_follows : Cond.instanceMethod yX12_follows ∈ lw_ok := lw_i9 36 rfl rfl
theorem wK_X12_follows : Cond.code yX12_follows cX12_follows 6 none ∈ lw_ok := lw_i9 37 rfl rfl
theorem wM_X12_302 : Cond.methodLink RX12 302 yX12_endRow ∈ lw_ok := lw_i9 38 rfl rfl
theorem wV_X12_endRow : Cond.instanceMethod yX12_endRow ∈ lw_ok := lw_i9 40 rfl rfl
theorem wK_X12_endRow : Cond.code yX12_endRow cX12_endRow 2 none ∈ lw_ok := lw_i9 41 rfl rfl
theorem wG_X12_345 : Cond.constant RX12 345 (65535) ∈ lw_ok := lw_i9 42 rfl rfl
theorem wM_X12_370 : Cond.methodLink RX12 370 yX12_actRead ∈ lw_ok := lw_i9 43 rfl rfl
theorem wV_X12_actRead : Cond.instanceMethod yX12_actRead ∈ lw_ok := lw_i9 45 rfl rfl
theorem wK_X12_actRead : Cond.code yX12_actRead cX12_actRead 4 none ∈ lw_ok := lw_i9 46 rfl rfl
theorem wM_DomainHouseLaw_88 : Cond.methodLink "DomainHouseLaw" 88 yX12_fault ∈ lw_ok := lw_i9 47 rfl rfl
theorem wV_X12_fault : Cond.instanceMethod yX12_fault ∈ lw_ok := lw_i9 48 rfl rfl
theorem wL_X12_fault : Cond.selects RX12 yX12_fault yX12_fault ∈ lw_ok := lw_i9 49 rfl rfl
theorem wK_X12_fault : Cond.code yX12_fault cX12_fault 1 (some .int) ∈ lw_ok := lw_i9 50 rfl rfl
theorem wM_DomainHouseLaw_92 : Cond.methodLink "DomainHouseLaw" 92 yX12_route ∈ lw_ok := lw_i9 51 rfl rfl
theorem wV_X12_route : Cond.instanceMethod yX12_route ∈ lw_ok := lw_i9 52 rfl rfl
theorem wL_X12_route : Cond.selects RX12 yX12_route yX12_route ∈ lw_ok := lw_i9 53 rfl rfl
theorem wK_X12_route : Cond.code yX12_route cX12_route 6 (some .int) ∈ lw_ok := lw_i9 54 rfl rfl
theorem wM_DomainHouseLaw_96 : Cond.methodLink "DomainHouseLaw" 96 yX12_judge ∈ lw_ok := lw_i9 55 rfl rfl
theorem wV_X12_judge : Cond.instanceMethod yX12_judge ∈ lw_ok := lw_i9 56 rfl rfl
theorem wL_X12_judge : Cond.selects RX12 yX12_judge yX12_judge ∈ lw_ok := lw_i9 57 rfl rfl
theorem wK_X12_judge : Cond.code yX12_judge cX12_judge 4 (some .int) ∈ lw_ok := lw_i9 58 rfl rfl
theorem wM_DomainHouseLaw_100 : Cond.methodLink "DomainHouseLaw" 100 yX12_hand ∈ lw_ok := lw_i9 59 rfl rfl
theorem wV_X12_hand : Cond.instanceMethod yX12_hand ∈ lw_ok := lw_i9 60 rfl rfl
theorem wL_X12_hand : Cond.selects RX12 yX12_hand yX12_hand ∈ lw_ok := lw_i9 61 rfl rfl
theorem wK_X12_hand : Cond.code yX12_hand cX12_hand 2 (some .int) ∈ lw_ok := lw_i9 62 rfl rfl
theorem wC_DomainHouseLaw_10 : Cond.classLink "DomainHouseLaw" 10 RX12 ∈ lw_ok := lw_i9 63 rfl rfl
theorem wM_DomainHouseLaw_12 : Cond.methodLink "DomainHouseLaw" 12 yX12_init ∈ lw_ok := lw_i9 64 rfl rfl
theorem wV_X12_init : Cond.instanceMethod yX12_init ∈ lw_ok := lw_i9 65 rfl rfl
theorem wK_X12_init : Cond.code yX12_init cX12_init 3 none ∈ lw_ok := lw_i9 66 rfl rfl
theorem wM_X12_418 : Cond.methodLink RX12 418 objectInit ∈ lw_ok := lw_i9 67 rfl rfl
theorem wG_X12_423 : Cond.constant RX12 423 (84000) ∈ lw_ok := lw_i9 68 rfl rfl
theorem wG_X12_529 : Cond.constant RX12 529 (46656) ∈ lw_ok := lw_i9 69 rfl rfl
theorem wF_X12_7 : Cond.fieldLink RX12 7 RX12 "tape" "[B" ∈ lw_ok := lw_i9 70 rfl rfl
theorem wF_X12_1 : Cond.fieldLink RX12 1 RX12 "size" "I" ∈ lw_ok := lw_i9 71 rfl rfl
theorem wF_X12_15 : Cond.fieldLink RX12 15 RX12 "prefixes" "I" ∈ lw_ok := lw_i9 72 rfl rfl
theorem wF_X12_22 : Cond.fieldLink RX12 22 RX12 "xAddress" "[I" ∈ lw_ok := lw_i9 73 rfl rfl
theorem wF_X12_26 : Cond.fieldLink RX12 26 RX12 "xLength" "[I" ∈ lw_ok := lw_i9 74 rfl rfl
theorem wF_X12_34 : Cond.fieldLink RX12 34 RX12 "domains" "I" ∈ lw_ok := lw_i9 75 rfl rfl
theorem wF_X12_37 : Cond.fieldLink RX12 37 RX12 "ties" "I" ∈ lw_ok := lw_i9 76 rfl rfl
theorem wF_X12_40 : Cond.fieldLink RX12 40 RX12 "tEnd" "[I" ∈ lw_ok := lw_i9 77 rfl rfl
theorem wF_X12_46 : Cond.fieldLink RX12 46 RX12 "tKind" "[I" ∈ lw_ok := lw_i9 78 rfl rfl
theorem wF_X12_53 : Cond.fieldLink RX12 53 RX12 "tUp" "[Z" ∈ lw_ok := lw_i9 79 rfl rfl
theorem wF_X12_57 : Cond.fieldLink RX12 57 RX12 "tDelay" "[I" ∈ lw_ok := lw_i9 80 rfl rfl
theorem wF_X12_60 : Cond.fieldLink RX12 60 RX12 "tGap" "[I" ∈ lw_ok := lw_i9 81 rfl rfl
theorem wF_X12_63 : Cond.fieldLink RX12 63 RX12 "tPolicy" "[I" ∈ lw_ok := lw_i9 82 rfl rfl
theorem wF_X12_69 : Cond.fieldLink RX12 69 RX12 "cone" "[Z" ∈ lw_ok := lw_i9 83 rfl rfl
theorem wF_X12_72 : Cond.fieldLink RX12 72 RX12 "far" "[I" ∈ lw_ok := lw_i9 84 rfl rfl
theorem wF_X12_79 : Cond.fieldLink RX12 79 RX12 "hands" "I" ∈ lw_ok := lw_i9 85 rfl rfl
theorem wF_X12_82 : Cond.fieldLink RX12 82 RX12 "handWay" "[I" ∈ lw_ok := lw_i9 86 rfl rfl
theorem wF_X12_85 : Cond.fieldLink RX12 85 RX12 "today" "I" ∈ lw_ok := lw_i9 87 rfl rfl
theorem wF_X12_95 : Cond.fieldLink RX12 95 RX12 "rights" "I" ∈ lw_ok := lw_i9 88 rfl rfl
theorem wF_X12_98 : Cond.fieldLink RX12 98 RX12 "rPrefix" "[I" ∈ lw_ok := lw_i9 89 rfl rfl
theorem wF_X12_101 : Cond.fieldLink RX12 101 RX12 "rMost" "[I" ∈ lw_ok := lw_i9 90 rfl rfl
theorem wF_X12_104 : Cond.fieldLink RX12 104 RX12 "rDomain" "[I" ∈ lw_ok := lw_i9 91 rfl rfl
theorem wF_X12_107 : Cond.fieldLink RX12 107 RX12 "rFrom" "[I" ∈ lw_ok := lw_i9 92 rfl rfl
theorem wF_X12_110 : Cond.fieldLink RX12 110 RX12 "rTo" "[I" ∈ lw_ok := lw_i9 93 rfl rfl
theorem wF_X12_113 : Cond.fieldLink RX12 113 RX12 "rKnown" "[I" ∈ lw_ok := lw_i9 94 rfl rfl
theorem wF_X12_116 : Cond.fieldLink RX12 116 RX12 "rStruck" "[I" ∈ lw_ok := lw_i9 95 rfl rfl
theorem wF_X12_119 : Cond.fieldLink RX12 119 RX12 "isJudged" "Z" ∈ lw_ok := lw_i9 96 rfl rfl
theorem wF_X12_123 : Cond.fieldLink RX12 123 RX12 "judgedPrefix" "I" ∈ lw_ok := lw_i9 97 rfl rfl
theorem wF_X12_126 : Cond.fieldLink RX12 126 RX12 "judgedNumber" "I" ∈ lw_ok := lw_i9 98 rfl rfl
theorem wF_X12_129 : Cond.fieldLink RX12 129 RX12 "judgedDay" "I" ∈ lw_ok := lw_i9 99 rfl rfl
theorem wF_X12_132 : Cond.fieldLink RX12 132 RX12 "judgedKnown" "I" ∈ lw_ok := lw_i9 100 rfl rfl
theorem wF_X12_139 : Cond.fieldLink RX12 139 RX12 "judgedVerdict" "I" ∈ lw_ok := lw_i9 101 rfl rfl
theorem wF_X12_148 : Cond.fieldLink RX12 148 RX12 "routes" "[I" ∈ lw_ok := lw_i9 102 rfl rfl
theorem wF_X12_224 : Cond.fieldLink RX12 224 RX12 "at" "I" ∈ lw_ok := lw_i9 103 rfl rfl
theorem wF_X12_218 : Cond.fieldLink RX12 218 RX12 "from" "I" ∈ lw_ok := lw_i9 104 rfl rfl
theorem wF_X12_230 : Cond.fieldLink RX12 230 RX12 "type" "I" ∈ lw_ok := lw_i9 105 rfl rfl
theorem wF_X12_233 : Cond.fieldLink RX12 233 RX12 "number" "I" ∈ lw_ok := lw_i9 106 rfl rfl
theorem wF_X12_215 : Cond.fieldLink RX12 215 RX12 "code" "I" ∈ lw_ok := lw_i9 107 rfl rfl
theorem wF_X12_221 : Cond.fieldLink RX12 221 RX12 "place" "I" ∈ lw_ok := lw_i9 108 rfl rfl
theorem wF_X12_355 : Cond.fieldLink RX12 355 RX12 "policies" "I" ∈ lw_ok := lw_i9 109 rfl rfl
theorem wF_X12_358 : Cond.fieldLink RX12 358 RX12 "pRows" "[I" ∈ lw_ok := lw_i9 110 rfl rfl
theorem wF_X12_361 : Cond.fieldLink RX12 361 RX12 "rowTest" "[I" ∈ lw_ok := lw_i9 111 rfl rfl
theorem wF_X12_364 : Cond.fieldLink RX12 364 RX12 "rowAct" "[I" ∈ lw_ok := lw_i9 112 rfl rfl
theorem wF_X12_320 : Cond.fieldLink RX12 320 RX12 "tests" "[I" ∈ lw_ok := lw_i9 113 rfl rfl
theorem wF_X12_346 : Cond.fieldLink RX12 346 RX12 "acts" "[I" ∈ lw_ok := lw_i9 114 rfl rfl
theorem wF_X12_323 : Cond.fieldLink RX12 323 RX12 "sWhat" "[I" ∈ lw_ok := lw_i9 115 rfl rfl
theorem wF_X12_326 : Cond.fieldLink RX12 326 RX12 "sNot" "[Z" ∈ lw_ok := lw_i9 116 rfl rfl
theorem wF_X12_329 : Cond.fieldLink RX12 329 RX12 "sA" "[I" ∈ lw_ok := lw_i9 117 rfl rfl
theorem wF_X12_336 : Cond.fieldLink RX12 336 RX12 "sB" "[I" ∈ lw_ok := lw_i9 118 rfl rfl
theorem wF_X12_339 : Cond.fieldLink RX12 339 RX12 "sC" "[I" ∈ lw_ok := lw_i9 119 rfl rfl
theorem wF_X12_305 : Cond.fieldLink RX12 305 RX12 "sFirst" "[J" ∈ lw_ok := lw_i9 120 rfl rfl
theorem wF_X12_308 : Cond.fieldLink RX12 308 RX12 "sLast" "[J" ∈ lw_ok := lw_i9 121 rfl rfl
theorem wF_X12_311 : Cond.fieldLink RX12 311 RX12 "sNone" "[Z" ∈ lw_ok := lw_i9 122 rfl rfl
theorem wF_X12_349 : Cond.fieldLink RX12 349 RX12 "cWhat" "[I" ∈ lw_ok := lw_i9 123 rfl rfl
theorem wF_X12_352 : Cond.fieldLink RX12 352 RX12 "cA" "[I" ∈ lw_ok := lw_i9 124 rfl rfl
theorem wF_X12_292 : Cond.fieldLink RX12 292 RX12 "atoms" "[I" ∈ lw_ok := lw_i9 125 rfl rfl
theorem wF_X12_295 : Cond.fieldLink RX12 295 RX12 "aNumber" "[I" ∈ lw_ok := lw_i9 126 rfl rfl
theorem wF_X12_275 : Cond.fieldLink RX12 275 RX12 "aFollow" "[J" ∈ lw_ok := lw_i9 127 rfl rfl
theorem wF_X12_278 : Cond.fieldLink RX12 278 RX12 "draft" "I" ∈ lw_ok := lw_i9 128 rfl rfl
theorem wF_X12_254 : Cond.fieldLink RX12 254 RX12 "levels" "I" ∈ lw_ok := lw_i9 129 rfl rfl
theorem wF_X12_250 : Cond.fieldLink RX12 250 RX12 "allFirst" "[J" ∈ lw_ok := lw_i9 130 rfl rfl
theorem wF_X12_257 : Cond.fieldLink RX12 257 RX12 "allLast" "[J" ∈ lw_ok := lw_i9 131 rfl rfl
theorem wF_X12_260 : Cond.fieldLink RX12 260 RX12 "allNone" "[Z" ∈ lw_ok := lw_i9 132 rfl rfl
theorem wF_X12_266 : Cond.fieldLink RX12 266 RX12 "rowFirst" "[J" ∈ lw_ok := lw_i9 133 rfl rfl
theorem wF_X12_269 : Cond.fieldLink RX12 269 RX12 "rowLast" "[J" ∈ lw_ok := lw_i9 134 rfl rfl
theorem wF_X12_272 : Cond.fieldLink RX12 272 RX12 "rowNone" "[Z" ∈ lw_ok := lw_i9 135 rfl rfl
theorem wF_X12_376 : Cond.fieldLink RX12 376 RX12 "fault" "I" ∈ lw_ok := lw_i9 136 rfl rfl
theorem wF_X12_388 : Cond.fieldLink RX12 388 RX12 "gPolicy" "[I" ∈ lw_ok := lw_i9 137 rfl rfl
theorem wF_X12_391 : Cond.fieldLink RX12 391 RX12 "gRow" "[I" ∈ lw_ok := lw_i9 138 rfl rfl
theorem wF_X12_394 : Cond.fieldLink RX12 394 RX12 "gAct" "[I" ∈ lw_ok := lw_i9 139 rfl rfl
theorem wF_X12_411 : Cond.fieldLink RX12 411 RX12 "isHand" "Z" ∈ lw_ok := lw_i9 140 rfl rfl
theorem wF_X12_591 : Cond.fieldLink RX12 591 RX12 "clock" "I" ∈ lw_ok := lw_i9 141 rfl rfl
theorem wF_X12_594 : Cond.fieldLink RX12 594 RX12 "made" "I" ∈ lw_ok := lw_i9 142 rfl rfl
theorem wF_X12_610 : Cond.fieldLink RX12 610 RX12 "done" "I" ∈ lw_ok := lw_i9 143 rfl rfl
theorem wF_X12_424 : Cond.fieldLink RX12 424 RX12 "heardAt" "[I" ∈ lw_ok := lw_i9 144 rfl rfl
theorem wF_X12_427 : Cond.fieldLink RX12 427 RX12 "wasSaid" "[Z" ∈ lw_ok := lw_i9 145 rfl rfl
theorem wF_X12_430 : Cond.fieldLink RX12 430 RX12 "saidAt" "[I" ∈ lw_ok := lw_i9 146 rfl rfl
theorem wF_X12_433 : Cond.fieldLink RX12 433 RX12 "goAt" "[I" ∈ lw_ok := lw_i9 147 rfl rfl
theorem wF_X12_436 : Cond.fieldLink RX12 436 RX12 "goMade" "[I" ∈ lw_ok := lw_i9 148 rfl rfl
theorem wF_X12_439 : Cond.fieldLink RX12 439 RX12 "waitAt" "[I" ∈ lw_ok := lw_i9 149 rfl rfl
theorem wF_X12_442 : Cond.fieldLink RX12 442 RX12 "waitMade" "[I" ∈ lw_ok := lw_i9 150 rfl rfl
theorem wF_X12_445 : Cond.fieldLink RX12 445 RX12 "pickedTie" "[I" ∈ lw_ok := lw_i9 151 rfl rfl
theorem wF_X12_448 : Cond.fieldLink RX12 448 RX12 "own" "[I" ∈ lw_ok := lw_i9 152 rfl rfl
theorem wF_X12_451 : Cond.fieldLink RX12 451 RX12 "steps" "[I" ∈ lw_ok := lw_i9 153 rfl rfl
theorem wF_X12_454 : Cond.fieldLink RX12 454 RX12 "grouped" "[Z" ∈ lw_ok := lw_i9 154 rfl rfl
theorem wF_X12_457 : Cond.fieldLink RX12 457 RX12 "left" "[Z" ∈ lw_ok := lw_i9 155 rfl rfl
theorem wF_X12_460 : Cond.fieldLink RX12 460 RX12 "gAddress" "[I" ∈ lw_ok := lw_i9 156 rfl rfl
theorem wF_X12_463 : Cond.fieldLink RX12 463 RX12 "gLength" "[I" ∈ lw_ok := lw_i9 157 rfl rfl
theorem wF_X12_625 : Cond.fieldLink RX12 625 RX12 "gone" "I" ∈ lw_ok := lw_i9 158 rfl rfl
theorem wF_X12_466 : Cond.fieldLink RX12 466 RX12 "nAddress" "[I" ∈ lw_ok := lw_i9 159 rfl rfl
theorem wF_X12_469 : Cond.fieldLink RX12 469 RX12 "nLength" "[I" ∈ lw_ok := lw_i9 160 rfl rfl
theorem wF_X12_628 : Cond.fieldLink RX12 628 RX12 "come" "I" ∈ lw_ok := lw_i9 161 rfl rfl
theorem wF_X12_472 : Cond.fieldLink RX12 472 RX12 "carried" "[I" ∈ lw_ok := lw_i9 162 rfl rfl
theorem wF_X12_652 : Cond.fieldLink RX12 652 RX12 "carries" "I" ∈ lw_ok := lw_i9 163 rfl rfl
theorem wF_X12_475 : Cond.fieldLink RX12 475 RX12 "seen" "[Z" ∈ lw_ok := lw_i9 164 rfl rfl
theorem wF_X12_478 : Cond.fieldLink RX12 478 RX12 "fPlace" "[I" ∈ lw_ok := lw_i9 165 rfl rfl
theorem wF_X12_655 : Cond.fieldLink RX12 655 RX12 "isMessage" "Z" ∈ lw_ok := lw_i9 166 rfl rfl
theorem wF_X12_665 : Cond.fieldLink RX12 665 RX12 "isClose" "Z" ∈ lw_ok := lw_i9 167 rfl rfl
theorem wF_X12_631 : Cond.fieldLink RX12 631 RX12 "isRightOrigin" "Z" ∈ lw_ok := lw_i9 168 rfl rfl
theorem wF_X12_634 : Cond.fieldLink RX12 634 RX12 "isRightWay" "Z" ∈ lw_ok := lw_i9 169 rfl rfl
theorem wF_X12_481 : Cond.fieldLink RX12 481 RX12 "msgMarks" "[I" ∈ lw_ok := lw_i9 170 rfl rfl
theorem wF_X12_637 : Cond.fieldLink RX12 637 RX12 "marksCame" "I" ∈ lw_ok := lw_i9 171 rfl rfl
theorem wF_X12_668 : Cond.fieldLink RX12 668 RX12 "toldKind" "I" ∈ lw_ok := lw_i9 172 rfl rfl
theorem wF_X12_484 : Cond.fieldLink RX12 484 RX12 "octets" "[I" ∈ lw_ok := lw_i9 173 rfl rfl
theorem wF_X12_671 : Cond.fieldLink RX12 671 RX12 "written" "I" ∈ lw_ok := lw_i9 174 rfl rfl
theorem wF_X12_487 : Cond.fieldLink RX12 487 RX12 "led" "[I" ∈ lw_ok := lw_i9 175 rfl rfl
theorem wF_X12_683 : Cond.fieldLink RX12 683 RX12 "ledMany" "I" ∈ lw_ok := lw_i9 176 rfl rfl
theorem wF_X12_490 : Cond.fieldLink RX12 490 RX12 "show" "[I" ∈ lw_ok := lw_i9 177 rfl rfl
theorem wF_X12_692 : Cond.fieldLink RX12 692 RX12 "showMany" "I" ∈ lw_ok := lw_i9 178 rfl rfl
theorem wF_X12_695 : Cond.fieldLink RX12 695 RX12 "demands" "I" ∈ lw_ok := lw_i9 179 rfl rfl
theorem wF_X12_493 : Cond.fieldLink RX12 493 RX12 "dFrom" "[I" ∈ lw_ok := lw_i9 180 rfl rfl
theorem wF_X12_496 : Cond.fieldLink RX12 496 RX12 "dAddress" "[I" ∈ lw_ok := lw_i9 181 rfl rfl
theorem wF_X12_499 : Cond.fieldLink RX12 499 RX12 "dUnits" "[I" ∈ lw_ok := lw_i9 182 rfl rfl
theorem wF_X12_502 : Cond.fieldLink RX12 502 RX12 "nAddr" "[I" ∈ lw_ok := lw_i9 183 rfl rfl
theorem wF_X12_505 : Cond.fieldLink RX12 505 RX12 "nDepth" "[I" ∈ lw_ok := lw_i9 184 rfl rfl
theorem wF_X12_508 : Cond.fieldLink RX12 508 RX12 "nCost" "[I" ∈ lw_ok := lw_i9 185 rfl rfl
theorem wF_X12_698 : Cond.fieldLink RX12 698 RX12 "nodes" "I" ∈ lw_ok := lw_i9 186 rfl rfl
theorem wF_X12_511 : Cond.fieldLink RX12 511 RX12 "edges" "[J" ∈ lw_ok := lw_i9 187 rfl rfl
theorem wF_X12_514 : Cond.fieldLink RX12 514 RX12 "wishes" "[I" ∈ lw_ok := lw_i9 188 rfl rfl
theorem wF_X12_517 : Cond.fieldLink RX12 517 RX12 "wLong" "[I" ∈ lw_ok := lw_i9 189 rfl rfl
theorem wF_X12_520 : Cond.fieldLink RX12 520 RX12 "wWay" "[I" ∈ lw_ok := lw_i9 190 rfl rfl
theorem wF_X12_523 : Cond.fieldLink RX12 523 RX12 "weigh" "[I" ∈ lw_ok := lw_i9 191 rfl rfl
theorem wF_X12_526 : Cond.fieldLink RX12 526 RX12 "has" "[I" ∈ lw_ok := lw_i9 192 rfl rfl
theorem wF_X12_530 : Cond.fieldLink RX12 530 RX12 "reached" "[I" ∈ lw_ok := lw_i9 193 rfl rfl
theorem wF_X12_533 : Cond.fieldLink RX12 533 RX12 "queue" "[I" ∈ lw_ok := lw_i9 194 rfl rfl
theorem wF_X12_536 : Cond.fieldLink RX12 536 RX12 "hopes" "[Z" ∈ lw_ok := lw_i9 195 rfl rfl
theorem wA_boolean : Cond.arrayClass (Jvm.ClassFile.FieldType.boolean) ∈ lw_ok := lw_i10 209 rfl rfl
theorem wM_DomainHouseLaw_46 : Cond.methodLink "DomainHouseLaw" 46 yX12_raise ∈ lw_ok := lw_i10 210 rfl rfl
theorem wV_X12_raise : Cond.instanceMethod yX12_raise ∈ lw_ok := lw_i10 211 rfl rfl
theorem wL_X12_raise : Cond.selects RX12 yX12_raise yX12_raise ∈ lw_ok := lw_i10 212 rfl rfl
theorem wK_X12_raise : Cond.code yX12_raise cX12_raise 5 (some .int) ∈ lw_ok := lw_i10 213 rfl rfl
theorem wM_DomainHouseLaw_104 : Cond.methodLink "DomainHouseLaw" 104 yX12_use ∈ lw_ok := lw_i10 214 rfl rfl
theorem wV_X12_use : Cond.instanceMethod yX12_use ∈ lw_ok := lw_i10 215 rfl rfl
theorem wL_X12_use : Cond.selects RX12 yX12_use yX12_use ∈ lw_ok := lw_i10 216 rfl rfl
theorem wK_X12_use : Cond.code yX12_use cX12_use 6 (some .int) ∈ lw_ok := lw_i10 217 rfl rfl
theorem wM_DomainHouseLaw_109 : Cond.methodLink "DomainHouseLaw" 109 yX12_rule ∈ lw_ok := lw_i10 218 rfl rfl
theorem wV_X12_rule : Cond.instanceMethod yX12_rule ∈ lw_ok := lw_i10 219 rfl rfl
theorem wL_X12_rule : Cond.selects RX12 yX12_rule yX12_rule ∈ lw_ok := lw_i10 220 rfl rfl
theorem wK_X12_rule : Cond.code yX12_rule cX12_rule 8 (some .int) ∈ lw_ok := lw_i10 221 rfl rfl
theorem wM_DomainHouseLaw_113 : Cond.methodLink "DomainHouseLaw" 113 yX12_announce ∈ lw_ok := lw_i10 222 rfl rfl
theorem wV_X12_announce : Cond.instanceMethod yX12_announce ∈ lw_ok := lw_i10 223 rfl rfl
theorem wL_X12_announce : Cond.selects RX12 yX12_announce yX12_announce ∈ lw_ok := lw_i10 224 rfl rfl
theorem wK_X12_announce : Cond.code yX12_announce cX12_announce 5 (some .int) ∈ lw_ok := lw_i10 225 rfl rfl
theorem wM_DomainHouseLaw_117 : Cond.methodLink "DomainHouseLaw" 117 yX12_withdraw ∈ lw_ok := lw_i10 226 rfl rfl
theorem wV_X12_withdraw : Cond.instanceMethod yX12_withdraw ∈ lw_ok := lw_i10 227 rfl rfl
theorem wL_X12_withdraw : Cond.selects RX12 yX12_withdraw yX12_withdraw ∈ lw_ok := lw_i10 228 rfl rfl
theorem wK_X12_withdraw : Cond.code yX12_withdraw cX12_withdraw 3 (some .int) ∈ lw_ok := lw_i10 229 rfl rfl
theorem wM_DomainHouseLaw_121 : Cond.methodLink "DomainHouseLaw" 121 yX12_go ∈ lw_ok := lw_i10 230 rfl rfl
theorem wV_X12_go : Cond.instanceMethod yX12_go ∈ lw_ok := lw_i10 231 rfl rfl
theorem wL_X12_go : Cond.selects RX12 yX12_go yX12_go ∈ lw_ok := lw_i10 232 rfl rfl
theorem wK_X12_go : Cond.code yX12_go cX12_go 3 (some .int) ∈ lw_ok := lw_i10 233 rfl rfl
theorem wM_X12_613 : Cond.methodLink RX12 613 yX12_nextEvent ∈ lw_ok := lw_i10 234 rfl rfl
theorem wV_X12_nextEvent : Cond.instanceMethod yX12_nextEvent ∈ lw_ok := lw_i10 236 rfl rfl
theorem wK_X12_nextEvent : Cond.code yX12_nextEvent cX12_nextEvent 7 (some .int) ∈ lw_ok := lw_i10 237 rfl rfl
theorem wG_X12_606 : Cond.constant RX12 606 (2000000000) ∈ lw_ok := lw_i10 238 rfl rfl
theorem wM_X12_616 : Cond.methodLink RX12 616 yX12_doEvent ∈ lw_ok := lw_i10 239 rfl rfl
theorem wV_X12_doEvent : Cond.instanceMethod yX12_doEvent ∈ lw_ok := lw_i11 1 rfl rfl
theorem wK_X12_doEvent : Cond.code yX12_doEvent cX12_doEvent 7 none ∈ lw_ok := lw_i11 2 rfl rfl
theorem wM_X12_607 : Cond.methodLink RX12 607 yX12_eventAt ∈ lw_ok := lw_i11 3 rfl rfl
theorem wV_X12_eventAt : Cond.instanceMethod yX12_eventAt ∈ lw_ok := lw_i11 5 rfl rfl
theorem wK_X12_eventAt : Cond.code yX12_eventAt cX12_eventAt 2 (some .int) ∈ lw_ok := lw_i11 6 rfl rfl
theorem wM_DomainHouseLaw_125 : Cond.methodLink "DomainHouseLaw" 125 yX12_until ∈ lw_ok := lw_i11 7 rfl rfl
theorem wV_X12_until : Cond.instanceMethod yX12_until ∈ lw_ok := lw_i11 8 rfl rfl
theorem wL_X12_until : Cond.selects RX12 yX12_until yX12_until ∈ lw_ok := lw_i11 9 rfl rfl
theorem wK_X12_until : Cond.code yX12_until cX12_until 4 (some .int) ∈ lw_ok := lw_i11 10 rfl rfl
theorem wG_X12_619 : Cond.constant RX12 619 (1000000000) ∈ lw_ok := lw_i11 11 rfl rfl
theorem wM_DomainHouseLaw_129 : Cond.methodLink "DomainHouseLaw" 129 yX12_picked ∈ lw_ok := lw_i11 12 rfl rfl
theorem wV_X12_picked : Cond.instanceMethod yX12_picked ∈ lw_ok := lw_i11 13 rfl rfl
theorem wL_X12_picked : Cond.selects RX12 yX12_picked yX12_picked ∈ lw_ok := lw_i11 14 rfl rfl
theorem wK_X12_picked : Cond.code yX12_picked cX12_picked 4 (some .int) ∈ lw_ok := lw_i11 15 rfl rfl
theorem wM_DomainHouseLaw_133 : Cond.methodLink "DomainHouseLaw" 133 yX12_heard ∈ lw_ok := lw_i11 16 rfl rfl
theorem wV_X12_heard : Cond.instanceMethod yX12_heard ∈ lw_ok := lw_i11 17 rfl rfl
theorem wL_X12_heard : Cond.selects RX12 yX12_heard yX12_heard ∈ lw_ok := lw_i11 18 rfl rfl
theorem wK_X12_heard : Cond.code yX12_heard cX12_heard 7 (some .int) ∈ lw_ok := lw_i11 19 rfl rfl
theorem wM_DomainHouseLaw_137 : Cond.methodLink "DomainHouseLaw" 137 yX12_why ∈ lw_ok := lw_i11 20 rfl rfl
theorem wV_X12_why : Cond.instanceMethod yX12_why ∈ lw_ok := lw_i11 21 rfl rfl
theorem wL_X12_why : Cond.selects RX12 yX12_why yX12_why ∈ lw_ok := lw_i11 22 rfl rfl
theorem wK_X12_why : Cond.code yX12_why cX12_why 9 (some .int) ∈ lw_ok := lw_i11 23 rfl rfl
theorem wM_DomainHouseLaw_141 : Cond.methodLink "DomainHouseLaw" 141 yX12_three ∈ lw_ok := lw_i11 24 rfl rfl
theorem wV_X12_three : Cond.instanceMethod yX12_three ∈ lw_ok := lw_i11 25 rfl rfl
theorem wL_X12_three : Cond.selects RX12 yX12_three yX12_three ∈ lw_ok := lw_i11 26 rfl rfl
theorem wK_X12_three : Cond.code yX12_three cX12_three 7 (some .int) ∈ lw_ok := lw_i11 27 rfl rfl
theorem wM_DomainHouseLaw_145 : Cond.methodLink "DomainHouseLaw" 145 yX12_message ∈ lw_ok := lw_i11 28 rfl rfl
theorem wV_X12_message : Cond.instanceMethod yX12_message ∈ lw_ok := lw_i11 29 rfl rfl
theorem wL_X12_message : Cond.selects RX12 yX12_message yX12_message ∈ lw_ok := lw_i11 30 rfl rfl
theorem wK_X12_message : Cond.code yX12_message cX12_message 5 (some .int) ∈ lw_ok := lw_i11 31 rfl rfl
theorem wM_X12_623 : Cond.methodLink RX12 623 yX12_number ∈ lw_ok := lw_i11 32 rfl rfl
theorem wV_X12_number : Cond.instanceMethod yX12_number ∈ lw_ok := lw_i11 34 rfl rfl
theorem wK_X12_number : Cond.code yX12_number cX12_number 5 (some .int) ∈ lw_ok := lw_i11 35 rfl rfl
theorem wM_X12_620 : Cond.methodLink RX12 620 yX12_fails ∈ lw_ok := lw_i11 36 rfl rfl
theorem wV_X12_fails : Cond.instanceMethod yX12_fails ∈ lw_ok := lw_i11 38 rfl rfl
theorem wK_X12_fails : Cond.code yX12_fails cX12_fails 3 none ∈ lw_ok := lw_i11 39 rfl rfl
theorem wM_X12_658 : Cond.methodLink RX12 658 yX12_partOf ∈ lw_ok := lw_i11 40 rfl rfl
theorem wV_X12_partOf : Cond.instanceMethod yX12_partOf ∈ lw_ok := lw_i11 42 rfl rfl
theorem wK_X12_partOf : Cond.code yX12_partOf cX12_partOf 8 (some .boolean) ∈ lw_ok := lw_i11 43 rfl rfl
theorem wM_X12_662 : Cond.methodLink RX12 662 yX12_attributes ∈ lw_ok := lw_i11 44 rfl rfl
theorem wV_X12_attributes : Cond.instanceMethod yX12_attributes ∈ lw_ok := lw_i11 46 rfl rfl
theorem wK_X12_attributes : Cond.code yX12_attributes cX12_attributes 12 none ∈ lw_ok := lw_i11 47 rfl rfl
theorem wM_X12_640 : Cond.methodLink RX12 640 yX12_originRight ∈ lw_ok := lw_i11 48 rfl rfl
theorem wV_X12_originRight : Cond.instanceMethod yX12_originRight ∈ lw_ok := lw_i11 50 rfl rfl
theorem wK_X12_originRight : Cond.code yX12_originRight cX12_originRight 3 (some .boolean) ∈ lw_ok := lw_i11 51 rfl rfl
theorem wM_X12_643 : Cond.methodLink RX12 643 yX12_wayRight ∈ lw_ok := lw_i11 52 rfl rfl
theorem wV_X12_wayRight : Cond.instanceMethod yX12_wayRight ∈ lw_ok := lw_i11 54 rfl rfl
theorem wK_X12_wayRight : Cond.code yX12_wayRight cX12_wayRight 11 (some .boolean) ∈ lw_ok := lw_i11 55 rfl rfl
theorem wM_X12_646 : Cond.methodLink RX12 646 yX12_costRight ∈ lw_ok := lw_i11 56 rfl rfl
theorem wV_X12_costRight : Cond.instanceMethod yX12_costRight ∈ lw_ok := lw_i11 58 rfl rfl
theorem wK_X12_costRight : Cond.code yX12_costRight cX12_costRight 4 (some .boolean) ∈ lw_ok := lw_i11 59 rfl rfl
theorem wM_X12_649 : Cond.methodLink RX12 649 yX12_marksRight ∈ lw_ok := lw_i11 60 rfl rfl
theorem wV_X12_marksRight : Cond.instanceMethod yX12_marksRight ∈ lw_ok := lw_i11 62 rfl rfl
theorem wK_X12_marksRight : Cond.code yX12_marksRight cX12_marksRight 5 (some .boolean) ∈ lw_ok := lw_i11 63 rfl rfl
theorem wM_DomainHouseLaw_149 : Cond.methodLink "DomainHouseLaw" 149 yX12_part ∈ lw_ok := lw_i11 64 rfl rfl
theorem wV_X12_part : Cond.instanceMethod yX12_part ∈ lw_ok := lw_i11 65 rfl rfl
theorem wL_X12_part : Cond.selects RX12 yX12_part yX12_part ∈ lw_ok := lw_i11 66 rfl rfl
theorem wK_X12_part : Cond.code yX12_part cX12_part 5 (some .int) ∈ lw_ok := lw_i11 67 rfl rfl
theorem wM_DomainHouseLaw_153 : Cond.methodLink "DomainHouseLaw" 153 yX12_hear ∈ lw_ok := lw_i11 68 rfl rfl
theorem wV_X12_hear : Cond.instanceMethod yX12_hear ∈ lw_ok := lw_i11 69 rfl rfl
theorem wL_X12_hear : Cond.selects RX12 yX12_hear yX12_hear ∈ lw_ok := lw_i11 70 rfl rfl
theorem wK_X12_hear : Cond.code yX12_hear cX12_hear 7 (some .int) ∈ lw_ok := lw_i11 71 rfl rfl
theorem wM_DomainHouseLaw_157 : Cond.methodLink "DomainHouseLaw" 157 yX12_write ∈ lw_ok := lw_i11 72 rfl rfl
theorem wV_X12_write : Cond.instanceMethod yX12_write ∈ lw_ok := lw_i11 73 rfl rfl
theorem wL_X12_write : Cond.selects RX12 yX12_write yX12_write ∈ lw_ok := lw_i11 74 rfl rfl
theorem wK_X12_write : Cond.code yX12_write cX12_write 10 (some .int) ∈ lw_ok := lw_i11 75 rfl rfl
theorem wM_X12_674 : Cond.methodLink RX12 674 yX12_octet1 ∈ lw_ok := lw_i11 76 rfl rfl
theorem wV_X12_octet1 : Cond.instanceMethod yX12_octet1 ∈ lw_ok := lw_i11 78 rfl rfl
theorem wK_X12_octet1 : Cond.code yX12_octet1 cX12_octet1 2 none ∈ lw_ok := lw_i11 79 rfl rfl
theorem wM_X12_677 : Cond.methodLink RX12 677 yX12_prefixOut ∈ lw_ok := lw_i11 80 rfl rfl
theorem wV_X12_prefixOut : Cond.instanceMethod yX12_prefixOut ∈ lw_ok := lw_i11 82 rfl rfl
theorem wK_X12_prefixOut : Cond.code yX12_prefixOut cX12_prefixOut 3 none ∈ lw_ok := lw_i11 83 rfl rfl
theorem wM_X12_680 : Cond.methodLink RX12 680 yX12_octet4 ∈ lw_ok := lw_i11 84 rfl rfl
theorem wV_X12_octet4 : Cond.instanceMethod yX12_octet4 ∈ lw_ok := lw_i11 86 rfl rfl
theorem wK_X12_octet4 : Cond.code yX12_octet4 cX12_octet4 3 none ∈ lw_ok := lw_i11 87 rfl rfl
theorem wM_DomainHouseLaw_161 : Cond.methodLink "DomainHouseLaw" 161 yX12_octet ∈ lw_ok := lw_i11 88 rfl rfl
theorem wV_X12_octet : Cond.instanceMethod yX12_octet ∈ lw_ok := lw_i11 89 rfl rfl
theorem wL_X12_octet : Cond.selects RX12 yX12_octet yX12_octet ∈ lw_ok := lw_i11 90 rfl rfl
theorem wK_X12_octet : Cond.code yX12_octet cX12_octet 2 (some .int) ∈ lw_ok := lw_i11 91 rfl rfl
theorem wM_DomainHouseLaw_165 : Cond.methodLink "DomainHouseLaw" 165 yX12_letter ∈ lw_ok := lw_i11 92 rfl rfl
theorem wV_X12_letter : Cond.instanceMethod yX12_letter ∈ lw_ok := lw_i11 93 rfl rfl
theorem wL_X12_letter : Cond.selects RX12 yX12_letter yX12_letter ∈ lw_ok := lw_i11 94 rfl rfl
theorem wK_X12_letter : Cond.code yX12_letter cX12_letter 5 (some .int) ∈ lw_ok := lw_i11 95 rfl rfl
theorem wM_X12_689 : Cond.methodLink RX12 689 yX12_goes ∈ lw_ok := lw_i11 96 rfl rfl
theorem wV_X12_goes : Cond.instanceMethod yX12_goes ∈ lw_ok := lw_i11 98 rfl rfl
theorem wK_X12_goes : Cond.code yX12_goes cX12_goes 6 (some .int) ∈ lw_ok := lw_i11 99 rfl rfl
theorem wM_X12_686 : Cond.methodLink RX12 686 yX12_sends ∈ lw_ok := lw_i11 100 rfl rfl
theorem wV_X12_sends : Cond.instanceMethod yX12_sends ∈ lw_ok := lw_i11 102 rfl rfl
theorem wK_X12_sends : Cond.code yX12_sends cX12_sends 5 (some .int) ∈ lw_ok := lw_i11 103 rfl rfl
theorem wM_DomainHouseLaw_169 : Cond.methodLink "DomainHouseLaw" 169 yX12_led ∈ lw_ok := lw_i11 104 rfl rfl
theorem wV_X12_led : Cond.instanceMethod yX12_led ∈ lw_ok := lw_i11 105 rfl rfl
theorem wL_X12_led : Cond.selects RX12 yX12_led yX12_led ∈ lw_ok := lw_i11 106 rfl rfl
theorem wK_X12_led : Cond.code yX12_led cX12_led 2 (some .int) ∈ lw_ok := lw_i11 107 rfl rfl
theorem wM_DomainHouseLaw_173 : Cond.methodLink "DomainHouseLaw" 173 yX12_demand ∈ lw_ok := lw_i11 108 rfl rfl
theorem wV_X12_demand : Cond.instanceMethod yX12_demand ∈ lw_ok := lw_i11 109 rfl rfl
theorem wL_X12_demand : Cond.selects RX12 yX12_demand yX12_demand ∈ lw_ok := lw_i11 110 rfl rfl
theorem wK_X12_demand : Cond.code yX12_demand cX12_demand 4 (some .int) ∈ lw_ok := lw_i11 111 rfl rfl
theorem wM_DomainHouseLaw_177 : Cond.methodLink "DomainHouseLaw" 177 yX12_load ∈ lw_ok := lw_i11 112 rfl rfl
theorem wV_X12_load : Cond.instanceMethod yX12_load ∈ lw_ok := lw_i11 113 rfl rfl
theorem wL_X12_load : Cond.selects RX12 yX12_load yX12_load ∈ lw_ok := lw_i11 114 rfl rfl
theorem wK_X12_load : Cond.code yX12_load cX12_load 6 (some .int) ∈ lw_ok := lw_i11 115 rfl rfl
theorem wM_DomainHouseLaw_181 : Cond.methodLink "DomainHouseLaw" 181 yX12_units ∈ lw_ok := lw_i11 116 rfl rfl
theorem wV_X12_units : Cond.instanceMethod yX12_units ∈ lw_ok := lw_i11 117 rfl rfl
theorem wL_X12_units : Cond.selects RX12 yX12_units yX12_units ∈ lw_ok := lw_i11 118 rfl rfl
theorem wK_X12_units : Cond.code yX12_units cX12_units 4 (some .int) ∈ lw_ok := lw_i11 119 rfl rfl
theorem wM_DomainHouseLaw_185 : Cond.methodLink "DomainHouseLaw" 185 yX12_least ∈ lw_ok := lw_i11 120 rfl rfl
theorem wV_X12_least : Cond.instanceMethod yX12_least ∈ lw_ok := lw_i11 121 rfl rfl
theorem wL_X12_least : Cond.selects RX12 yX12_least yX12_least ∈ lw_ok := lw_i11 122 rfl rfl
theorem wK_X12_least : Cond.code yX12_least cX12_least 9 (some .int) ∈ lw_ok := lw_i11 123 rfl rfl
theorem wM_X12_701 : Cond.methodLink RX12 701 yX12_nodeOf ∈ lw_ok := lw_i11 124 rfl rfl
theorem wV_X12_nodeOf : Cond.instanceMethod yX12_nodeOf ∈ lw_ok := lw_i11 126 rfl rfl
theorem wK_X12_nodeOf : Cond.code yX12_nodeOf cX12_nodeOf 4 (some .int) ∈ lw_ok := lw_i11 127 rfl rfl
theorem wM_X12_707 : Cond.methodLink RX12 707 yX12_costOf ∈ lw_ok := lw_i11 128 rfl rfl
theorem wV_X12_costOf : Cond.instanceMethod yX12_costOf ∈ lw_ok := lw_i11 130 rfl rfl
theorem wK_X12_costOf : Cond.code yX12_costOf cX12_costOf 6 (some .int) ∈ lw_ok := lw_i11 131 rfl rfl
theorem wM_X12_704 : Cond.methodLink RX12 704 yX12_aim ∈ lw_ok := lw_i11 132 rfl rfl
theorem wS_X12_aim : Cond.static yX12_aim ∈ lw_ok := lw_i11 133 rfl rfl
theorem wK_X12_aim : Cond.code yX12_aim cX12_aim 1 (some .int) ∈ lw_ok := lw_i11 134 rfl rfl
theorem wM_DomainHouseLaw_190 : Cond.methodLink "DomainHouseLaw" 190 yX12_differ ∈ lw_ok := lw_i11 135 rfl rfl
theorem wV_X12_differ : Cond.instanceMethod yX12_differ ∈ lw_ok := lw_i11 136 rfl rfl
theorem wL_X12_differ : Cond.selects RX12 yX12_differ yX12_differ ∈ lw_ok := lw_i11 137 rfl rfl
theorem wK_X12_differ : Cond.code yX12_differ cX12_differ 10 (some .long) ∈ lw_ok := lw_i11 138 rfl rfl
theorem wH_X12_710 : Cond.constantLong RX12 710 (-1) ∈ lw_ok := lw_i11 139 rfl rfl
theorem wH_X12_712 : Cond.constantLong RX12 712 (4294967296) ∈ lw_ok := lw_i11 140 rfl rfl
theorem wH_X12_714 : Cond.constantLong RX12 714 (4294967295) ∈ lw_ok := lw_i11 141 rfl rfl
theorem wM_DomainHouseLaw_194 : Cond.methodLink "DomainHouseLaw" 194 yX12_clear ∈ lw_ok := lw_i11 142 rfl rfl
theorem wV_X12_clear : Cond.instanceMethod yX12_clear ∈ lw_ok := lw_i11 143 rfl rfl
theorem wL_X12_clear : Cond.selects RX12 yX12_clear yX12_clear ∈ lw_ok := lw_i11 144 rfl rfl
theorem wK_X12_clear : Cond.code yX12_clear cX12_clear 3 (some .int) ∈ lw_ok := lw_i11 145 rfl rfl
theorem wM_DomainHouseLaw_198 : Cond.methodLink "DomainHouseLaw" 198 yX12_wish ∈ lw_ok := lw_i11 146 rfl rfl
theorem wV_X12_wish : Cond.instanceMethod yX12_wish ∈ lw_ok := lw_i11 147 rfl rfl
theorem wL_X12_wish : Cond.selects RX12 yX12_wish yX12_wish ∈ lw_ok := lw_i11 148 rfl rfl
theorem wK_X12_wish : Cond.code yX12_wish cX12_wish 5 (some .int) ∈ lw_ok := lw_i11 149 rfl rfl
theorem wM_X12_716 : Cond.methodLink RX12 716 yX12_isWished ∈ lw_ok := lw_i11 150 rfl rfl
theorem wV_X12_isWished : Cond.instanceMethod yX12_isWished ∈ lw_ok := lw_i11 152 rfl rfl
theorem wK_X12_isWished : Cond.code yX12_isWished cX12_isWished 5 (some .boolean) ∈ lw_ok := lw_i11 153 rfl rfl
theorem wM_DomainHouseLaw_202 : Cond.methodLink "DomainHouseLaw" 202 yX12_rests ∈ lw_ok := lw_i11 154 rfl rfl
theorem wV_X12_rests : Cond.instanceMethod yX12_rests ∈ lw_ok := lw_i11 155 rfl rfl
theorem wL_X12_rests : Cond.selects RX12 yX12_rests yX12_rests ∈ lw_ok := lw_i11 156 rfl rfl
theorem wK_X12_rests : Cond.code yX12_rests cX12_rests 4 (some .int) ∈ lw_ok := lw_i11 157 rfl rfl
theorem wM_X12_728 : Cond.methodLink RX12 728 yX12_states ∈ lw_ok := lw_i11 158 rfl rfl
theorem wV_X12_states : Cond.instanceMethod yX12_states ∈ lw_ok := lw_i11 160 rfl rfl
theorem wK_X12_states : Cond.code yX12_states cX12_states 3 (some .int) ∈ lw_ok := lw_i11 161 rfl rfl
theorem wM_X12_731 : Cond.methodLink RX12 731 yX12_isRest ∈ lw_ok := lw_i11 162 rfl rfl
theorem wV_X12_isRest : Cond.instanceMethod yX12_isRest ∈ lw_ok := lw_i11 164 rfl rfl
theorem wK_X12_isRest : Cond.code yX12_isRest cX12_isRest 4 (some .boolean) ∈ lw_ok := lw_i11 165 rfl rfl
theorem wM_X12_722 : Cond.methodLink RX12 722 yX12_open ∈ lw_ok := lw_i11 166 rfl rfl
theorem wV_X12_open : Cond.instanceMethod yX12_open ∈ lw_ok := lw_i11 168 rfl rfl
theorem wK_X12_open : Cond.code yX12_open cX12_open 3 none ∈ lw_ok := lw_i11 169 rfl rfl
theorem wM_X12_725 : Cond.methodLink RX12 725 yX12_acted ∈ lw_ok := lw_i11 170 rfl rfl
theorem wV_X12_acted : Cond.instanceMethod yX12_acted ∈ lw_ok := lw_i11 172 rfl rfl
theorem wK_X12_acted : Cond.code yX12_acted cX12_acted 3 (some .int) ∈ lw_ok := lw_i11 173 rfl rfl
theorem wM_X12_719 : Cond.methodLink RX12 719 yX12_isOffered ∈ lw_ok := lw_i11 174 rfl rfl
theorem wV_X12_isOffered : Cond.instanceMethod yX12_isOffered ∈ lw_ok := lw_i11 176 rfl rfl
theorem wK_X12_isOffered : Cond.code yX12_isOffered cX12_isOffered 6 (some .boolean) ∈ lw_ok := lw_i11 177 rfl rfl
theorem wM_DomainHouseLaw_206 : Cond.methodLink "DomainHouseLaw" 206 yX12_rest ∈ lw_ok := lw_i11 178 rfl rfl
theorem wV_X12_rest : Cond.instanceMethod yX12_rest ∈ lw_ok := lw_i11 179 rfl rfl
theorem wL_X12_rest : Cond.selects RX12 yX12_rest yX12_rest ∈ lw_ok := lw_i11 180 rfl rfl
theorem wK_X12_rest : Cond.code yX12_rest cX12_rest 6 (some .int) ∈ lw_ok := lw_i11 181 rfl rfl
theorem wM_DomainHouseLaw_210 : Cond.methodLink "DomainHouseLaw" 210 yX12_tries ∈ lw_ok := lw_i11 182 rfl rfl
theorem wV_X12_tries : Cond.instanceMethod yX12_tries ∈ lw_ok := lw_i11 183 rfl rfl
theorem wL_X12_tries : Cond.selects RX12 yX12_tries yX12_tries ∈ lw_ok := lw_i11 184 rfl rfl
theorem wK_X12_tries : Cond.code yX12_tries cX12_tries 12 (some .int) ∈ lw_ok := lw_i11 185 rfl rfl
theorem wM_DomainHouseLaw_214 : Cond.methodLink "DomainHouseLaw" 214 yX12_count ∈ lw_ok := lw_i11 186 rfl rfl
theorem wV_X12_count : Cond.instanceMethod yX12_count ∈ lw_ok := lw_i11 187 rfl rfl
theorem wL_X12_count : Cond.selects RX12 yX12_count yX12_count ∈ lw_ok := lw_i11 188 rfl rfl
theorem wK_X12_count : Cond.code yX12_count cX12_count 4 (some .int) ∈ lw_ok := lw_i11 189 rfl rfl
theorem wL_X11_feedNumber : Cond.selects RX11 yX11_feedNumber yX11_feedNumber ∈ lw_ok := lw_in 0 rfl rfl
theorem wL_X11_isDomain : Cond.selects RX11 yX11_isDomain yX11_isDomain ∈ lw_ok := lw_in 1 rfl rfl
theorem wL_X11_isTie : Cond.selects RX11 yX11_isTie yX11_isTie ∈ lw_ok := lw_in 2 rfl rfl
theorem wL_X8_say : Cond.selects RX8 yX8_say yX8_say ∈ lw_ok := lw_in 3 rfl rfl
theorem wL_X8_compose : Cond.selects RX8 yX8_compose yX8_compose ∈ lw_ok := lw_in 4 rfl rfl
theorem wL_X1_goThrough : Cond.selects RX1 yX1_goThrough yX1_goThrough ∈ lw_ok := lw_in 5 rfl rfl
theorem wL_X1_isSo : Cond.selects RX1 yX1_isSo yX1_isSo ∈ lw_ok := lw_in 6 rfl rfl
theorem wL_X1_doActs : Cond.selects RX1 yX1_doActs yX1_doActs ∈ lw_ok := lw_in 7 rfl rfl
theorem wL_X8_schedule : Cond.selects RX8 yX8_schedule yX8_schedule ∈ lw_ok := lw_in 8 rfl rfl
theorem wL_X8_cancel : Cond.selects RX8 yX8_cancel yX8_cancel ∈ lw_ok := lw_in 9 rfl rfl
theorem wL_X8_gather : Cond.selects RX8 yX8_gather yX8_gather ∈ lw_ok := lw_in 10 rfl rfl
theorem wL_X8_pickGrouped : Cond.selects RX8 yX8_pickGrouped yX8_pickGrouped ∈ lw_ok := lw_in 11 rfl rfl
theorem wL_X8_isFirstOfGroup : Cond.selects RX8 yX8_isFirstOfGroup yX8_isFirstOfGroup ∈ lw_ok := lw_in 12 rfl rfl
theorem wL_X8_bestOfGroup : Cond.selects RX8 yX8_bestOfGroup yX8_bestOfGroup ∈ lw_ok := lw_in 13 rfl rfl
theorem wL_X8_insertWinner : Cond.selects RX8 yX8_insertWinner yX8_insertWinner ∈ lw_ok := lw_in 14 rfl rfl
theorem wL_X8_groupOrder : Cond.selects RX8 yX8_groupOrder yX8_groupOrder ∈ lw_ok := lw_in 15 rfl rfl
theorem wL_X8_lastStanding : Cond.selects RX8 yX8_lastStanding yX8_lastStanding ∈ lw_ok := lw_in 16 rfl rfl
theorem wL_X8_pickPlain : Cond.selects RX8 yX8_pickPlain yX8_pickPlain ∈ lw_ok := lw_in 17 rfl rfl
theorem wL_X10_shortestRing : Cond.selects RX10 yX10_shortestRing yX10_shortestRing ∈ lw_ok := lw_in 18 rfl rfl
theorem wL_X10_fillRing : Cond.selects RX10 yX10_fillRing yX10_fillRing ∈ lw_ok := lw_in 19 rfl rfl
theorem wL_X10_leastCustomer : Cond.selects RX10 yX10_leastCustomer yX10_leastCustomer ∈ lw_ok := lw_in 20 rfl rfl
theorem wL_X11_isPrefix : Cond.selects RX11 yX11_isPrefix yX11_isPrefix ∈ lw_ok := lw_in 21 rfl rfl
theorem wL_X6_split : Cond.selects RX6 yX6_split yX6_split ∈ lw_ok := lw_in 22 rfl rfl
theorem wL_X6_putToken : Cond.selects RX6 yX6_putToken yX6_putToken ∈ lw_ok := lw_in 23 rfl rfl
theorem wL_X6_putNumber : Cond.selects RX6 yX6_putNumber yX6_putNumber ∈ lw_ok := lw_in 24 rfl rfl
theorem wL_X6_readRow : Cond.selects RX6 yX6_readRow yX6_readRow ∈ lw_ok := lw_in 25 rfl rfl
theorem wL_X6_fail : Cond.selects RX6 yX6_fail yX6_fail ∈ lw_ok := lw_in 26 rfl rfl
theorem wL_X6_put : Cond.selects RX6 yX6_put yX6_put ∈ lw_ok := lw_in 27 rfl rfl
theorem wL_X6_take : Cond.selects RX6 yX6_take yX6_take ∈ lw_ok := lw_in 28 rfl rfl
theorem wL_X6_step : Cond.selects RX6 yX6_step yX6_step ∈ lw_ok := lw_in 29 rfl rfl
theorem wL_X6_readTest : Cond.selects RX6 yX6_readTest yX6_readTest ∈ lw_ok := lw_in 30 rfl rfl
theorem wL_X6_readHeldIn : Cond.selects RX6 yX6_readHeldIn yX6_readHeldIn ∈ lw_ok := lw_in 31 rfl rfl
theorem wL_X6_number : Cond.selects RX6 yX6_number yX6_number ∈ lw_ok := lw_in 32 rfl rfl
theorem wL_X6_expect : Cond.selects RX6 yX6_expect yX6_expect ∈ lw_ok := lw_in 33 rfl rfl
theorem wL_X6_putTest : Cond.selects RX6 yX6_putTest yX6_putTest ∈ lw_ok := lw_in 34 rfl rfl
theorem wL_X6_readWay : Cond.selects RX6 yX6_readWay yX6_readWay ∈ lw_ok := lw_in 35 rfl rfl
theorem wL_X6_readBranches : Cond.selects RX6 yX6_readBranches yX6_readBranches ∈ lw_ok := lw_in 36 rfl rfl
theorem wL_X6_readGroup : Cond.selects RX6 yX6_readGroup yX6_readGroup ∈ lw_ok := lw_in 37 rfl rfl
theorem wL_X6_readPlace : Cond.selects RX6 yX6_readPlace yX6_readPlace ∈ lw_ok := lw_in 38 rfl rfl
theorem wL_X6_readRepeat : Cond.selects RX6 yX6_readRepeat yX6_readRepeat ∈ lw_ok := lw_in 39 rfl rfl
theorem wL_X6_join : Cond.selects RX6 yX6_join yX6_join ∈ lw_ok := lw_in 40 rfl rfl
theorem wL_X6_oneOf : Cond.selects RX6 yX6_oneOf yX6_oneOf ∈ lw_ok := lw_in 41 rfl rfl
theorem wL_X6_relation : Cond.selects RX6 yX6_relation yX6_relation ∈ lw_ok := lw_in 42 rfl rfl
theorem wL_X6_readAct : Cond.selects RX6 yX6_readAct yX6_readAct ∈ lw_ok := lw_in 43 rfl rfl
theorem wL_X11_rowInHand : Cond.selects RX11 yX11_rowInHand yX11_rowInHand ∈ lw_ok := lw_in 44 rfl rfl
theorem wL_X8_handOver : Cond.selects RX8 yX8_handOver yX8_handOver ∈ lw_ok := lw_in 45 rfl rfl
theorem wL_X8_candidateOver : Cond.selects RX8 yX8_candidateOver yX8_candidateOver ∈ lw_ok := lw_in 46 rfl rfl
theorem wL_X3_forget : Cond.selects RX3 yX3_forget yX3_forget ∈ lw_ok := lw_in 47 rfl rfl
theorem wL_X3_readParts : Cond.selects RX3 yX3_readParts yX3_readParts ∈ lw_ok := lw_in 48 rfl rfl
theorem wL_X3_pairAt : Cond.selects RX3 yX3_pairAt yX3_pairAt ∈ lw_ok := lw_in 49 rfl rfl
theorem wL_X3_note : Cond.selects RX3 yX3_note yX3_note ∈ lw_ok := lw_in 50 rfl rfl
theorem wL_X3_readPrefixes : Cond.selects RX3 yX3_readPrefixes yX3_readPrefixes ∈ lw_ok := lw_in 51 rfl rfl
theorem wL_X3_readAttributes : Cond.selects RX3 yX3_readAttributes yX3_readAttributes ∈ lw_ok := lw_in 52 rfl rfl
theorem wL_X3_readAttribute : Cond.selects RX3 yX3_readAttribute yX3_readAttribute ∈ lw_ok := lw_in 53 rfl rfl
theorem wL_X3_readOrigin : Cond.selects RX3 yX3_readOrigin yX3_readOrigin ∈ lw_ok := lw_in 54 rfl rfl
theorem wL_X3_readWay : Cond.selects RX3 yX3_readWay yX3_readWay ∈ lw_ok := lw_in 55 rfl rfl
theorem wL_X3_fourAt : Cond.selects RX3 yX3_fourAt yX3_fourAt ∈ lw_ok := lw_in 56 rfl rfl
theorem wL_X3_readCost : Cond.selects RX3 yX3_readCost yX3_readCost ∈ lw_ok := lw_in 57 rfl rfl
theorem wL_X3_readMarks : Cond.selects RX3 yX3_readMarks yX3_readMarks ∈ lw_ok := lw_in 58 rfl rfl
theorem wL_X3_keepMark : Cond.selects RX3 yX3_keepMark yX3_keepMark ∈ lw_ok := lw_in 59 rfl rfl
theorem wL_X3_carry : Cond.selects RX3 yX3_carry yX3_carry ∈ lw_ok := lw_in 60 rfl rfl
theorem wL_X3_placeTold : Cond.selects RX3 yX3_placeTold yX3_placeTold ∈ lw_ok := lw_in 61 rfl rfl
theorem wL_X3_toldInAll : Cond.selects RX3 yX3_toldInAll yX3_toldInAll ∈ lw_ok := lw_in 62 rfl rfl
theorem wL_X3_toldOfRow : Cond.selects RX3 yX3_toldOfRow yX3_toldOfRow ∈ lw_ok := lw_in 63 rfl rfl
theorem wL_X3_putNumber : Cond.selects RX3 yX3_putNumber yX3_putNumber ∈ lw_ok := lw_in 64 rfl rfl
theorem wL_X3_putPrefix : Cond.selects RX3 yX3_putPrefix yX3_putPrefix ∈ lw_ok := lw_in 65 rfl rfl
theorem wL_X3_putAttributes : Cond.selects RX3 yX3_putAttributes yX3_putAttributes ∈ lw_ok := lw_in 66 rfl rfl
theorem wL_X3_putHead : Cond.selects RX3 yX3_putHead yX3_putHead ∈ lw_ok := lw_in 67 rfl rfl
theorem wL_X2_travel : Cond.selects RX2 yX2_travel yX2_travel ∈ lw_ok := lw_in 68 rfl rfl
theorem wL_X2_partnerFor : Cond.selects RX2 yX2_partnerFor yX2_partnerFor ∈ lw_ok := lw_in 69 rfl rfl
theorem wL_X2_tieFor : Cond.selects RX2 yX2_tieFor yX2_tieFor ∈ lw_ok := lw_in 70 rfl rfl
theorem wL_X2_leastBelow : Cond.selects RX2 yX2_leastBelow yX2_leastBelow ∈ lw_ok := lw_in 71 rfl rfl
theorem wL_X2_isSplit : Cond.selects RX2 yX2_isSplit yX2_isSplit ∈ lw_ok := lw_in 72 rfl rfl
theorem wL_X2_layBorders : Cond.selects RX2 yX2_layBorders yX2_layBorders ∈ lw_ok := lw_in 73 rfl rfl
theorem wL_X2_insertBorder : Cond.selects RX2 yX2_insertBorder yX2_insertBorder ∈ lw_ok := lw_in 74 rfl rfl
theorem wL_X4_prepare : Cond.selects RX4 yX4_prepare yX4_prepare ∈ lw_ok := lw_in 75 rfl rfl
theorem wL_X4_need : Cond.selects RX4 yX4_need yX4_need ∈ lw_ok := lw_in 76 rfl rfl
theorem wL_X4_unfold : Cond.selects RX4 yX4_unfold yX4_unfold ∈ lw_ok := lw_in 77 rfl rfl
theorem wL_X4_figure : Cond.selects RX4 yX4_figure yX4_figure ∈ lw_ok := lw_in 78 rfl rfl
theorem wL_X4_isRest : Cond.selects RX4 yX4_isRest yX4_isRest ∈ lw_ok := lw_in 79 rfl rfl
theorem wL_X4_actOf : Cond.selects RX4 yX4_actOf yX4_actOf ∈ lw_ok := lw_in 80 rfl rfl
theorem wL_X4_keepRest : Cond.selects RX4 yX4_keepRest yX4_keepRest ∈ lw_ok := lw_in 81 rfl rfl
theorem wL_X4_countUp : Cond.selects RX4 yX4_countUp yX4_countUp ∈ lw_ok := lw_in 82 rfl rfl
theorem wL_X4_makeRoom : Cond.selects RX4 yX4_makeRoom yX4_makeRoom ∈ lw_ok := lw_in 83 rfl rfl
theorem wL_X4_spread : Cond.selects RX4 yX4_spread yX4_spread ∈ lw_ok := lw_in 84 rfl rfl
theorem wL_X4_addNeighbours : Cond.selects RX4 yX4_addNeighbours yX4_addNeighbours ∈ lw_ok := lw_in 85 rfl rfl
theorem wL_X4_leadBack : Cond.selects RX4 yX4_leadBack yX4_leadBack ∈ lw_ok := lw_in 86 rfl rfl
theorem wL_X4_addSources : Cond.selects RX4 yX4_addSources yX4_addSources ∈ lw_ok := lw_in 87 rfl rfl
theorem wL_X12_prefixOf : Cond.selects RX12 yX12_prefixOf yX12_prefixOf ∈ lw_ok := lw_in 88 rfl rfl
theorem wL_X12_isDomain : Cond.selects RX12 yX12_isDomain yX12_isDomain ∈ lw_ok := lw_in 89 rfl rfl
theorem wL_X12_tieOf : Cond.selects RX12 yX12_tieOf yX12_tieOf ∈ lw_ok := lw_in 90 rfl rfl
theorem wL_X12_isTie : Cond.selects RX12 yX12_isTie yX12_isTie ∈ lw_ok := lw_in 91 rfl rfl
theorem wL_X12_provides : Cond.selects RX12 yX12_provides yX12_provides ∈ lw_ok := lw_in 92 rfl rfl
theorem wL_X12_rethink : Cond.selects RX12 yX12_rethink yX12_rethink ∈ lw_ok := lw_in 93 rfl rfl
theorem wL_X12_lookAll : Cond.selects RX12 yX12_lookAll yX12_lookAll ∈ lw_ok := lw_in 94 rfl rfl
theorem wL_X12_look : Cond.selects RX12 yX12_look yX12_look ∈ lw_ok := lw_in 95 rfl rfl
theorem wL_X12_pick : Cond.selects RX12 yX12_pick yX12_pick ∈ lw_ok := lw_in 96 rfl rfl
theorem wL_X12_candidates : Cond.selects RX12 yX12_candidates yX12_candidates ∈ lw_ok := lw_in 97 rfl rfl
theorem wL_X12_isAt : Cond.selects RX12 yX12_isAt yX12_isAt ∈ lw_ok := lw_in 98 rfl rfl
theorem wL_X12_candidate : Cond.selects RX12 yX12_candidate yX12_candidate ∈ lw_ok := lw_in 99 rfl rfl
theorem wL_X12_sideOf : Cond.selects RX12 yX12_sideOf yX12_sideOf ∈ lw_ok := lw_in 100 rfl rfl
theorem wL_X12_nothing : Cond.selects RX12 yX12_nothing yX12_nothing ∈ lw_ok := lw_in 101 rfl rfl
theorem wL_X12_isThere : Cond.selects RX12 yX12_isThere yX12_isThere ∈ lw_ok := lw_in 102 rfl rfl
theorem wL_X12_isIn : Cond.selects RX12 yX12_isIn yX12_isIn ∈ lw_ok := lw_in 103 rfl rfl
theorem wL_X12_copy : Cond.selects RX12 yX12_copy yX12_copy ∈ lw_ok := lw_in 104 rfl rfl
theorem wL_X12_partnerOf : Cond.selects RX12 yX12_partnerOf yX12_partnerOf ∈ lw_ok := lw_in 105 rfl rfl
theorem wL_X12_through : Cond.selects RX12 yX12_through yX12_through ∈ lw_ok := lw_in 106 rfl rfl
theorem wL_X12_isSo : Cond.selects RX12 yX12_isSo yX12_isSo ∈ lw_ok := lw_in 107 rfl rfl
theorem wL_X12_waysMatch : Cond.selects RX12 yX12_waysMatch yX12_waysMatch ∈ lw_ok := lw_in 108 rfl rfl
theorem wL_X12_marked : Cond.selects RX12 yX12_marked yX12_marked ∈ lw_ok := lw_in 109 rfl rfl
theorem wL_X12_tieWord : Cond.selects RX12 yX12_tieWord yX12_tieWord ∈ lw_ok := lw_in 110 rfl rfl
theorem wL_X12_related : Cond.selects RX12 yX12_related yX12_related ∈ lw_ok := lw_in 111 rfl rfl
theorem wL_X12_judged : Cond.selects RX12 yX12_judged yX12_judged ∈ lw_ok := lw_in 112 rfl rfl
theorem wL_X12_judgedAnew : Cond.selects RX12 yX12_judgedAnew yX12_judgedAnew ∈ lw_ok := lw_in 113 rfl rfl
theorem wL_X12_addMark : Cond.selects RX12 yX12_addMark yX12_addMark ∈ lw_ok := lw_in 114 rfl rfl
theorem wL_X12_dropMark : Cond.selects RX12 yX12_dropMark yX12_dropMark ∈ lw_ok := lw_in 115 rfl rfl
theorem wL_X12_front : Cond.selects RX12 yX12_front yX12_front ∈ lw_ok := lw_in 116 rfl rfl
theorem wL_X12_best : Cond.selects RX12 yX12_best yX12_best ∈ lw_ok := lw_in 117 rfl rfl
theorem wL_X12_beats : Cond.selects RX12 yX12_beats yX12_beats ∈ lw_ok := lw_in 118 rfl rfl
theorem wL_X12_unlike : Cond.selects RX12 yX12_unlike yX12_unlike ∈ lw_ok := lw_in 119 rfl rfl
theorem wL_X12_same : Cond.selects RX12 yX12_same yX12_same ∈ lw_ok := lw_in 120 rfl rfl
theorem wL_X12_say : Cond.selects RX12 yX12_say yX12_say ∈ lw_ok := lw_in 121 rfl rfl
theorem wL_X12_sayAll : Cond.selects RX12 yX12_sayAll yX12_sayAll ∈ lw_ok := lw_in 122 rfl rfl
theorem wL_X12_isPrefix : Cond.selects RX12 yX12_isPrefix yX12_isPrefix ∈ lw_ok := lw_in 123 rfl rfl
theorem wL_X12_next : Cond.selects RX12 yX12_next yX12_next ∈ lw_ok := lw_in 124 rfl rfl
theorem wL_X12_byteAt : Cond.selects RX12 yX12_byteAt yX12_byteAt ∈ lw_ok := lw_in 125 rfl rfl
theorem wL_X12_wrong : Cond.selects RX12 yX12_wrong yX12_wrong ∈ lw_ok := lw_in 126 rfl rfl
theorem wL_X12_rowRead : Cond.selects RX12 yX12_rowRead yX12_rowRead ∈ lw_ok := lw_in 127 rfl rfl
theorem wL_X12_isWord : Cond.selects RX12 yX12_isWord yX12_isWord ∈ lw_ok := lw_in 128 rfl rfl
theorem wL_X12_test : Cond.selects RX12 yX12_test yX12_test ∈ lw_ok := lw_in 129 rfl rfl
theorem wL_X12_addressRead : Cond.selects RX12 yX12_addressRead yX12_addressRead ∈ lw_ok := lw_in 130 rfl rfl
theorem wL_X12_within : Cond.selects RX12 yX12_within yX12_within ∈ lw_ok := lw_in 131 rfl rfl
theorem wL_X12_sign : Cond.selects RX12 yX12_sign yX12_sign ∈ lw_ok := lw_in 132 rfl rfl
theorem wL_X12_isSign : Cond.selects RX12 yX12_isSign yX12_isSign ∈ lw_ok := lw_in 133 rfl rfl
theorem wL_X12_wayTest : Cond.selects RX12 yX12_wayTest yX12_wayTest ∈ lw_ok := lw_in 134 rfl rfl
theorem wL_X12_openLevel : Cond.selects RX12 yX12_openLevel yX12_openLevel ∈ lw_ok := lw_in 135 rfl rfl
theorem wL_X12_freshRow : Cond.selects RX12 yX12_freshRow yX12_freshRow ∈ lw_ok := lw_in 136 rfl rfl
theorem wL_X12_piece : Cond.selects RX12 yX12_piece yX12_piece ∈ lw_ok := lw_in 137 rfl rfl
theorem wL_X12_follows : Cond.selects RX12 yX12_follows yX12_follows ∈ lw_ok := lw_in 138 rfl rfl
theorem wL_X12_endRow : Cond.selects RX12 yX12_endRow yX12_endRow ∈ lw_ok := lw_in 139 rfl rfl
theorem wL_X12_actRead : Cond.selects RX12 yX12_actRead yX12_actRead ∈ lw_ok := lw_in 140 rfl rfl
theorem wL_X12_nextEvent : Cond.selects RX12 yX12_nextEvent yX12_nextEvent ∈ lw_ok := lw_in 141 rfl rfl
theorem wL_X12_doEvent : Cond.selects RX12 yX12_doEvent yX12_doEvent ∈ lw_ok := lw_in 142 rfl rfl
theorem wL_X12_eventAt : Cond.selects RX12 yX12_eventAt yX12_eventAt ∈ lw_ok := lw_in 143 rfl rfl
theorem wL_X12_number : Cond.selects RX12 yX12_number yX12_number ∈ lw_ok := lw_in 144 rfl rfl
theorem wL_X12_fails : Cond.selects RX12 yX12_fails yX12_fails ∈ lw_ok := lw_in 145 rfl rfl
theorem wL_X12_partOf : Cond.selects RX12 yX12_partOf yX12_partOf ∈ lw_ok := lw_in 146 rfl rfl
theorem wL_X12_attributes : Cond.selects RX12 yX12_attributes yX12_attributes ∈ lw_ok := lw_in 147 rfl rfl
theorem wL_X12_originRight : Cond.selects RX12 yX12_originRight yX12_originRight ∈ lw_ok := lw_in 148 rfl rfl
theorem wL_X12_wayRight : Cond.selects RX12 yX12_wayRight yX12_wayRight ∈ lw_ok := lw_in 149 rfl rfl
theorem wL_X12_costRight : Cond.selects RX12 yX12_costRight yX12_costRight ∈ lw_ok := lw_in 150 rfl rfl
theorem wL_X12_marksRight : Cond.selects RX12 yX12_marksRight yX12_marksRight ∈ lw_ok := lw_in 151 rfl rfl
theorem wL_X12_octet1 : Cond.selects RX12 yX12_octet1 yX12_octet1 ∈ lw_ok := lw_in 152 rfl rfl
theorem wL_X12_prefixOut : Cond.selects RX12 yX12_prefixOut yX12_prefixOut ∈ lw_ok := lw_in 153 rfl rfl
theorem wL_X12_octet4 : Cond.selects RX12 yX12_octet4 yX12_octet4 ∈ lw_ok := lw_in 154 rfl rfl
theorem wL_X12_goes : Cond.selects RX12 yX12_goes yX12_goes ∈ lw_ok := lw_in 155 rfl rfl
theorem wL_X12_sends : Cond.selects RX12 yX12_sends yX12_sends ∈ lw_ok := lw_in 156 rfl rfl
theorem wL_X12_nodeOf : Cond.selects RX12 yX12_nodeOf yX12_nodeOf ∈ lw_ok := lw_in 157 rfl rfl
theorem wL_X12_costOf : Cond.selects RX12 yX12_costOf yX12_costOf ∈ lw_ok := lw_in 158 rfl rfl
theorem wL_X12_isWished : Cond.selects RX12 yX12_isWished yX12_isWished ∈ lw_ok := lw_in 159 rfl rfl
theorem wL_X12_states : Cond.selects RX12 yX12_states yX12_states ∈ lw_ok := lw_in 160 rfl rfl
theorem wL_X12_isRest : Cond.selects RX12 yX12_isRest yX12_isRest ∈ lw_ok := lw_in 161 rfl rfl
theorem wL_X12_open : Cond.selects RX12 yX12_open yX12_open ∈ lw_ok := lw_in 162 rfl rfl
theorem wL_X12_acted : Cond.selects RX12 yX12_acted yX12_acted ∈ lw_ok := lw_in 163 rfl rfl
theorem wL_X12_isOffered : Cond.selects RX12 yX12_isOffered yX12_isOffered ∈ lw_ok := lw_in 164 rfl rfl
end
section
theorem wY_X0_0 : u_lay RX0 TX0 0 ∈ lw_ok := lw_i3 153 rfl rfl
theorem wY_X0_1 : u_lay RX0 TX0 1 ∈ lw_ok := lw_i3 155 rfl rfl
theorem wY_X0_2 : u_lay RX0 TX0 2 ∈ lw_ok := lw_i3 157 rfl rfl
theorem wY_X0_3 : u_lay RX0 TX0 3 ∈ lw_ok := lw_i3 159 rfl rfl
theorem wY_X0_4 : u_lay RX0 TX0 4 ∈ lw_ok := lw_i3 161 rfl rfl
theorem wY_X0_5 : u_lay RX0 TX0 5 ∈ lw_ok := lw_i3 163 rfl rfl
theorem gIX0 : ∀ w ∈ u_ws RX0 TX0 6, w ∈ lw_ok := List.forall_mem_cons.mpr ⟨wY_X0_0, List.forall_mem_cons.mpr ⟨wY_X0_1, List.forall_mem_cons.mpr ⟨wY_X0_2, List.forall_mem_cons.mpr ⟨wY_X0_3, List.forall_mem_cons.mpr ⟨wY_X0_4, List.forall_mem_cons.mpr ⟨wY_X0_5, fun _ h => absurd h List.not_mem_nil⟩⟩⟩⟩⟩⟩
theorem gCX0 (l : Launch) (D : va_G) (c : Nat → ClassId) (H0 : Heap) (sa : Nat × Nat × (Nat → Int32)) : sCl (gG l D c H0 sa) 0 (RX0, TX0, 6) tyX0 := ⟨rfl, gIX0, tyX0_ok, nmX0⟩
theorem wY_X1_0 : u_lay RX1 TX1 0 ∈ lw_ok := lw_i1 222 rfl rfl
theorem wY_X1_1 : u_lay RX1 TX1 1 ∈ lw_ok := lw_i1 224 rfl rfl
theorem wY_X1_2 : u_lay RX1 TX1 2 ∈ lw_ok := lw_i1 226 rfl rfl
theorem wY_X1_3 : u_lay RX1 TX1 3 ∈ lw_ok := lw_i1 228 rfl rfl
theorem wY_X1_4 : u_lay RX1 TX1 4 ∈ lw_ok := lw_i1 230 rfl rfl
theorem wY_X1_5 : u_lay RX1 TX1 5 ∈ lw_ok := lw_i1 232 rfl rfl
theorem wY_X1_6 : u_lay RX1 TX1 6 ∈ lw_ok := lw_i1 234 rfl rfl
theorem wY_X1_7 : u_lay RX1 TX1 7 ∈ lw_ok := lw_i1 236 rfl rfl
theorem wY_X1_8 : u_lay RX1 TX1 8 ∈ lw_ok := lw_i1 238 rfl rfl
theorem gIX1 : ∀ w ∈ u_ws RX1 TX1 9, w ∈ lw_ok := List.forall_mem_cons.mpr ⟨wY_X1_0, List.forall_mem_cons.mpr ⟨wY_X1_1, List.forall_mem_cons.mpr ⟨wY_X1_2, List.forall_mem_cons.mpr ⟨wY_X1_3, List.forall_mem_cons.mpr ⟨wY_X1_4, List.forall_mem_cons.mpr ⟨wY_X1_5, List.forall_mem_cons.mpr ⟨wY_X1_6, List.forall_mem_cons.mpr ⟨wY_X1_7, List.forall_mem_cons.mpr ⟨wY_X1_8, fun _ h => absurd h List.not_mem_nil⟩⟩⟩⟩⟩⟩⟩⟩⟩
theorem gCX1 (l : Launch) (D : va_G) (c : Nat → ClassId) (H0 : Heap) (sa : Nat × Nat × (Nat → Int32)) : sCl (gG l D c H0 sa) 1 (RX1, TX1, 9) tyX1 := ⟨rfl, gIX1, tyX1_ok, nmX1⟩
theorem wY_X2_0 : u_lay RX2 TX2 0 ∈ lw_ok := lw_i2 215 rfl rfl
theorem wY_X2_1 : u_lay RX2 TX2 1 ∈ lw_ok := lw_i2 217 rfl rfl
theorem wY_X2_2 : u_lay RX2 TX2 2 ∈ lw_ok := lw_i2 219 rfl rfl
theorem wY_X2_3 : u_lay RX2 TX2 3 ∈ lw_ok := lw_i2 221 rfl rfl
theorem wY_X2_4 : u_lay RX2 TX2 4 ∈ lw_ok := lw_i2 223 rfl rfl
theorem wY_X2_5 : u_lay RX2 TX2 5 ∈ lw_ok := lw_i2 225 rfl rfl
theorem wY_X2_6 : u_lay RX2 TX2 6 ∈ lw_ok := lw_i2 227 rfl rfl
theorem wY_X2_7 : u_lay RX2 TX2 7 ∈ lw_ok := lw_i2 229 rfl rfl
theorem wY_X2_8 : u_lay RX2 TX2 8 ∈ lw_ok := lw_i2 231 rfl rfl
theorem wY_X2_9 : u_lay RX2 TX2 9 ∈ lw_ok := lw_i2 233 rfl rfl
theorem wY_X2_10 : u_lay RX2 TX2 10 ∈ lw_ok := lw_i2 235 rfl rfl
theorem gIX2 : ∀ w ∈ u_ws RX2 TX2 11, w ∈ lw_ok := List.forall_mem_cons.mpr ⟨wY_X2_0, List.forall_mem_cons.mpr ⟨wY_X2_1, List.forall_mem_cons.mpr ⟨wY_X2_2, List.forall_mem_cons.mpr ⟨wY_X2_3, List.forall_mem_cons.mpr ⟨wY_X2_4, List.forall_mem_cons.mpr ⟨wY_X2_5, List.forall_mem_cons.mpr ⟨wY_X2_6, List.forall_mem_cons.mpr ⟨wY_X2_7, List.forall_mem_cons.mpr ⟨wY_X2_8, List.forall_mem_cons.mpr ⟨wY_X2_9, List.forall_mem_cons.mpr ⟨wY_X2_10, fun _ h => absurd h List.not_mem_nil⟩⟩⟩⟩⟩⟩⟩⟩⟩⟩⟩
theorem gCX2 (l : Launch) (D : va_G) (c : Nat → ClassId) (H0 : Heap) (sa : Nat × Nat × (Nat → Int32)) : sCl (gG l D c H0 sa) 2 (RX2, TX2, 11) tyX2 := ⟨rfl, gIX2, tyX2_ok, nmX2⟩
theorem wY_X3_0 : u_lay RX3 TX3 0 ∈ lw_ok := lw_i2 160 rfl rfl
theorem wY_X3_1 : u_lay RX3 TX3 1 ∈ lw_ok := lw_i2 162 rfl rfl
theorem wY_X3_2 : u_lay RX3 TX3 2 ∈ lw_ok := lw_i2 164 rfl rfl
theorem wY_X3_3 : u_lay RX3 TX3 3 ∈ lw_ok := lw_i2 166 rfl rfl
theorem wY_X3_4 : u_lay RX3 TX3 4 ∈ lw_ok := lw_i2 168 rfl rfl
theorem wY_X3_5 : u_lay RX3 TX3 5 ∈ lw_ok := lw_i2 170 rfl rfl
theorem wY_X3_6 : u_lay RX3 TX3 6 ∈ lw_ok := lw_i2 172 rfl rfl
theorem wY_X3_7 : u_lay RX3 TX3 7 ∈ lw_ok := lw_i2 174 rfl rfl
theorem wY_X3_8 : u_lay RX3 TX3 8 ∈ lw_ok := lw_i2 176 rfl rfl
theorem wY_X3_9 : u_lay RX3 TX3 9 ∈ lw_ok := lw_i2 178 rfl rfl
theorem wY_X3_10 : u_lay RX3 TX3 10 ∈ lw_ok := lw_i2 180 rfl rfl
theorem wY_X3_11 : u_lay RX3 TX3 11 ∈ lw_ok := lw_i2 182 rfl rfl
theorem wY_X3_12 : u_lay RX3 TX3 12 ∈ lw_ok := lw_i2 184 rfl rfl
theorem wY_X3_13 : u_lay RX3 TX3 13 ∈ lw_ok := lw_i2 186 rfl rfl
theorem wY_X3_14 : u_lay RX3 TX3 14 ∈ lw_ok := lw_i2 188 rfl rfl
theorem wY_X3_15 : u_lay RX3 TX3 15 ∈ lw_ok := lw_i2 190 rfl rfl
theorem wY_X3_16 : u_lay RX3 TX3 16 ∈ lw_ok := lw_i2 192 rfl rfl
theorem gIX3 : ∀ w ∈ u_ws RX3 TX3 17, w ∈ lw_ok := List.forall_mem_cons.mpr ⟨wY_X3_0, List.forall_mem_cons.mpr ⟨wY_X3_1, List.forall_mem_cons.mpr ⟨wY_X3_2, List.forall_mem_cons.mpr ⟨wY_X3_3, List.forall_mem_cons.mpr ⟨wY_X3_4, List.forall_mem_cons.mpr ⟨wY_X3_5, List.forall_mem_cons.mpr ⟨wY_X3_6, List.forall_mem_cons.mpr ⟨wY_X3_7, List.forall_mem_cons.mpr ⟨wY_X3_8, List.forall_mem_cons.mpr ⟨wY_X3_9, List.forall_mem_cons.mpr ⟨wY_X3_10, List.forall_mem_cons.mpr ⟨wY_X3_11, List.forall_mem_cons.mpr ⟨wY_X3_12, List.forall_mem_cons.mpr ⟨wY_X3_13, List.forall_mem_cons.mpr ⟨wY_X3_14, List.forall_mem_cons.mpr ⟨wY_X3_15, List.forall_mem_cons.mpr ⟨wY_X3_16, fun _ h => absurd h List.not_mem_nil⟩⟩⟩⟩⟩⟩⟩⟩⟩⟩⟩⟩⟩⟩⟩⟩⟩
theorem gCX3 (l : Launch) (D : va_G) (c : Nat → ClassId) (H0 : Heap) (sa : Nat × Nat × (Nat → Int32)) : sCl (gG l D c H0 sa) 3 (RX3, TX3, 17) tyX3 := ⟨rfl, gIX3, tyX3_ok, nmX3⟩
theorem wY_X4_0 : u_lay RX4 TX4 0 ∈ lw_ok := lw_i3 22 rfl rfl
theorem wY_X4_1 : u_lay RX4 TX4 1 ∈ lw_ok := lw_i3 24 rfl rfl
theorem wY_X4_2 : u_lay RX4 TX4 2 ∈ lw_ok := lw_i3 26 rfl rfl
theorem wY_X4_3 : u_lay RX4 TX4 3 ∈ lw_ok := lw_i3 28 rfl rfl
theorem wY_X4_4 : u_lay RX4 TX4 4 ∈ lw_ok := lw_i3 30 rfl rfl
theorem wY_X4_5 : u_lay RX4 TX4 5 ∈ lw_ok := lw_i3 32 rfl rfl
theorem wY_X4_6 : u_lay RX4 TX4 6 ∈ lw_ok := lw_i3 34 rfl rfl
theorem wY_X4_7 : u_lay RX4 TX4 7 ∈ lw_ok := lw_i3 36 rfl rfl
theorem wY_X4_8 : u_lay RX4 TX4 8 ∈ lw_ok := lw_i3 38 rfl rfl
theorem wY_X4_9 : u_lay RX4 TX4 9 ∈ lw_ok := lw_i3 40 rfl rfl
theorem wY_X4_10 : u_lay RX4 TX4 10 ∈ lw_ok := lw_i3 42 rfl rfl
theorem wY_X4_11 : u_lay RX4 TX4 11 ∈ lw_ok := lw_i3 44 rfl rfl
theorem wY_X4_12 : u_lay RX4 TX4 12 ∈ lw_ok := lw_i3 46 rfl rfl
theorem wY_X4_13 : u_lay RX4 TX4 13 ∈ lw_ok := lw_i3 48 rfl rfl
theorem wY_X4_14 : u_lay RX4 TX4 14 ∈ lw_ok := lw_i3 50 rfl rfl
theorem gIX4 : ∀ w ∈ u_ws RX4 TX4 15, w ∈ lw_ok := List.forall_mem_cons.mpr ⟨wY_X4_0, List.forall_mem_cons.mpr ⟨wY_X4_1, List.forall_mem_cons.mpr ⟨wY_X4_2, List.forall_mem_cons.mpr ⟨wY_X4_3, List.forall_mem_cons.mpr ⟨wY_X4_4, List.forall_mem_cons.mpr ⟨wY_X4_5, List.forall_mem_cons.mpr ⟨wY_X4_6, List.forall_mem_cons.mpr ⟨wY_X4_7, List.forall_mem_cons.mpr ⟨wY_X4_8, List.forall_mem_cons.mpr ⟨wY_X4_9, List.forall_mem_cons.mpr ⟨wY_X4_10, List.forall_mem_cons.mpr ⟨wY_X4_11, List.forall_mem_cons.mpr ⟨wY_X4_12, List.forall_mem_cons.mpr ⟨wY_X4_13, List.forall_mem_cons.mpr ⟨wY_X4_14, fun _ h => absurd h List.not_mem_nil⟩⟩⟩⟩⟩⟩⟩⟩⟩⟩⟩⟩⟩⟩⟩
theorem gCX4 (l : Launch) (D : va_G) (c : Nat → ClassId) (H0 : Heap) (sa : Nat × Nat × (Nat → Int32)) : sCl (gG l D c H0 sa) 4 (RX4, TX4, 15) tyX4 := ⟨rfl, gIX4, tyX4_ok, nmX4⟩
theorem wY_X5_0 : u_lay RX5 TX5 0 ∈ lw_ok := lw_i5 225 rfl rfl
theorem wY_X5_1 : u_lay RX5 TX5 1 ∈ lw_ok := lw_i5 227 rfl rfl
theorem wY_X5_2 : u_lay RX5 TX5 2 ∈ lw_ok := lw_i5 229 rfl rfl
theorem wY_X5_3 : u_lay RX5 TX5 3 ∈ lw_ok := lw_i5 231 rfl rfl
theorem wY_X5_4 : u_lay RX5 TX5 4 ∈ lw_ok := lw_i5 233 rfl rfl
theorem wY_X5_5 : u_lay RX5 TX5 5 ∈ lw_ok := lw_i5 235 rfl rfl
theorem gIX5 : ∀ w ∈ u_ws RX5 TX5 6, w ∈ lw_ok := List.forall_mem_cons.mpr ⟨wY_X5_0, List.forall_mem_cons.mpr ⟨wY_X5_1, List.forall_mem_cons.mpr ⟨wY_X5_2, List.forall_mem_cons.mpr ⟨wY_X5_3, List.forall_mem_cons.mpr ⟨wY_X5_4, List.forall_mem_cons.mpr ⟨wY_X5_5, fun _ h => absurd h List.not_mem_nil⟩⟩⟩⟩⟩⟩
theorem gCX5 (l : Launch) (D : va_G) (c : Nat → ClassId) (H0 : Heap) (sa : Nat × Nat × (Nat → Int32)) : sCl (gG l D c H0 sa) 5 (RX5, TX5, 6) tyX5 := ⟨rfl, gIX5, tyX5_ok, nmX5⟩
theorem wY_X6_0 : u_lay RX6 TX6 0 ∈ lw_ok := lw_i2 29 rfl rfl
theorem wY_X6_1 : u_lay RX6 TX6 1 ∈ lw_ok := lw_i2 31 rfl rfl
theorem wY_X6_2 : u_lay RX6 TX6 2 ∈ lw_ok := lw_i2 33 rfl rfl
theorem wY_X6_3 : u_lay RX6 TX6 3 ∈ lw_ok := lw_i2 35 rfl rfl
theorem wY_X6_4 : u_lay RX6 TX6 4 ∈ lw_ok := lw_i2 37 rfl rfl
theorem wY_X6_5 : u_lay RX6 TX6 5 ∈ lw_ok := lw_i2 39 rfl rfl
theorem wY_X6_6 : u_lay RX6 TX6 6 ∈ lw_ok := lw_i2 41 rfl rfl
theorem wY_X6_7 : u_lay RX6 TX6 7 ∈ lw_ok := lw_i2 43 rfl rfl
theorem wY_X6_8 : u_lay RX6 TX6 8 ∈ lw_ok := lw_i2 45 rfl rfl
theorem wY_X6_9 : u_lay RX6 TX6 9 ∈ lw_ok := lw_i2 47 rfl rfl
theorem wY_X6_10 : u_lay RX6 TX6 10 ∈ lw_ok := lw_i2 49 rfl rfl
theorem wY_X6_11 : u_lay RX6 TX6 11 ∈ lw_ok := lw_i2 51 rfl rfl
theorem wY_X6_12 : u_lay RX6 TX6 12 ∈ lw_ok := lw_i2 53 rfl rfl
theorem wY_X6_13 : u_lay RX6 TX6 13 ∈ lw_ok := lw_i2 55 rfl rfl
theorem wY_X6_14 : u_lay RX6 TX6 14 ∈ lw_ok := lw_i2 57 rfl rfl
theorem wY_X6_15 : u_lay RX6 TX6 15 ∈ lw_ok := lw_i2 59 rfl rfl
theorem wY_X6_16 : u_lay RX6 TX6 16 ∈ lw_ok := lw_i2 61 rfl rfl
theorem wY_X6_17 : u_lay RX6 TX6 17 ∈ lw_ok := lw_i2 63 rfl rfl
theorem wY_X6_18 : u_lay RX6 TX6 18 ∈ lw_ok := lw_i2 65 rfl rfl
theorem wY_X6_19 : u_lay RX6 TX6 19 ∈ lw_ok := lw_i2 67 rfl rfl
theorem gIX6 : ∀ w ∈ u_ws RX6 TX6 20, w ∈ lw_ok := List.forall_mem_cons.mpr ⟨wY_X6_0, List.forall_mem_cons.mpr ⟨wY_X6_1, List.forall_mem_cons.mpr ⟨wY_X6_2, List.forall_mem_cons.mpr ⟨wY_X6_3, List.forall_mem_cons.mpr ⟨wY_X6_4, List.forall_mem_cons.mpr ⟨wY_X6_5, List.forall_mem_cons.mpr ⟨wY_X6_6, List.forall_mem_cons.mpr ⟨wY_X6_7, List.forall_mem_cons.mpr ⟨wY_X6_8, List.forall_mem_cons.mpr ⟨wY_X6_9, List.forall_mem_cons.mpr ⟨wY_X6_10, List.forall_mem_cons.mpr ⟨wY_X6_11, List.forall_mem_cons.mpr ⟨wY_X6_12, List.forall_mem_cons.mpr ⟨wY_X6_13, List.forall_mem_cons.mpr ⟨wY_X6_14, List.forall_mem_cons.mpr ⟨wY_X6_15, List.forall_mem_cons.mpr ⟨wY_X6_16, List.forall_mem_cons.mpr ⟨wY_X6_17, List.forall_mem_cons.mpr ⟨wY_X6_18, List.forall_mem_cons.mpr ⟨wY_X6_19, fun _ h => absurd h List.not_mem_nil⟩⟩⟩⟩⟩⟩⟩⟩⟩⟩⟩⟩⟩⟩⟩⟩⟩⟩⟩⟩
theorem gCX6 (l : Launch) (D : va_G) (c : Nat → ClassId) (H0 : Heap) (sa : Nat × Nat × (Nat → Int32)) : sCl (gG l D c H0 sa) 6 (RX6, TX6, 20) tyX6 := ⟨rfl, gIX6, tyX6_ok, nmX6⟩
theorem wY_X7_0 : u_lay RX7 TX7 0 ∈ lw_ok := lw_i1 85 rfl rfl
theorem wY_X7_1 : u_lay RX7 TX7 1 ∈ lw_ok := lw_i1 87 rfl rfl
theorem wY_X7_2 : u_lay RX7 TX7 2 ∈ lw_ok := lw_i1 89 rfl rfl
theorem wY_X7_3 : u_lay RX7 TX7 3 ∈ lw_ok := lw_i1 91 rfl rfl
theorem wY_X7_4 : u_lay RX7 TX7 4 ∈ lw_ok := lw_i1 93 rfl rfl
theorem wY_X7_5 : u_lay RX7 TX7 5 ∈ lw_ok := lw_i1 95 rfl rfl
theorem wY_X7_6 : u_lay RX7 TX7 6 ∈ lw_ok := lw_i1 97 rfl rfl
theorem wY_X7_7 : u_lay RX7 TX7 7 ∈ lw_ok := lw_i1 99 rfl rfl
theorem wY_X7_8 : u_lay RX7 TX7 8 ∈ lw_ok := lw_i1 101 rfl rfl
theorem wY_X7_9 : u_lay RX7 TX7 9 ∈ lw_ok := lw_i1 103 rfl rfl
theorem wY_X7_10 : u_lay RX7 TX7 10 ∈ lw_ok := lw_i1 105 rfl rfl
theorem wY_X7_11 : u_lay RX7 TX7 11 ∈ lw_ok := lw_i1 107 rfl rfl
theorem gIX7 : ∀ w ∈ u_ws RX7 TX7 12, w ∈ lw_ok := List.forall_mem_cons.mpr ⟨wY_X7_0, List.forall_mem_cons.mpr ⟨wY_X7_1, List.forall_mem_cons.mpr ⟨wY_X7_2, List.forall_mem_cons.mpr ⟨wY_X7_3, List.forall_mem_cons.mpr ⟨wY_X7_4, List.forall_mem_cons.mpr ⟨wY_X7_5, List.forall_mem_cons.mpr ⟨wY_X7_6, List.forall_mem_cons.mpr ⟨wY_X7_7, List.forall_mem_cons.mpr ⟨wY_X7_8, List.forall_mem_cons.mpr ⟨wY_X7_9, List.forall_mem_cons.mpr ⟨wY_X7_10, List.forall_mem_cons.mpr ⟨wY_X7_11, fun _ h => absurd h List.not_mem_nil⟩⟩⟩⟩⟩⟩⟩⟩⟩⟩⟩⟩
theorem gCX7 (l : Launch) (D : va_G) (c : Nat → ClassId) (H0 : Heap) (sa : Nat × Nat × (Nat → Int32)) : sCl (gG l D c H0 sa) 7 (RX7, TX7, 12) tyX7 := ⟨rfl, gIX7, tyX7_ok, nmX7⟩
theorem wY_X8_0 : u_lay RX8 TX8 0 ∈ lw_ok := lw_i2 99 rfl rfl
theorem wY_X8_1 : u_lay RX8 TX8 1 ∈ lw_ok := lw_i2 101 rfl rfl
theorem wY_X8_2 : u_lay RX8 TX8 2 ∈ lw_ok := lw_i2 103 rfl rfl
theorem wY_X8_3 : u_lay RX8 TX8 3 ∈ lw_ok := lw_i2 105 rfl rfl
theorem wY_X8_4 : u_lay RX8 TX8 4 ∈ lw_ok := lw_i2 107 rfl rfl
theorem wY_X8_5 : u_lay RX8 TX8 5 ∈ lw_ok := lw_i2 109 rfl rfl
theorem wY_X8_6 : u_lay RX8 TX8 6 ∈ lw_ok := lw_i2 111 rfl rfl
theorem wY_X8_7 : u_lay RX8 TX8 7 ∈ lw_ok := lw_i2 113 rfl rfl
theorem wY_X8_8 : u_lay RX8 TX8 8 ∈ lw_ok := lw_i2 115 rfl rfl
theorem wY_X8_9 : u_lay RX8 TX8 9 ∈ lw_ok := lw_i2 117 rfl rfl
theorem wY_X8_10 : u_lay RX8 TX8 10 ∈ lw_ok := lw_i2 119 rfl rfl
theorem wY_X8_11 : u_lay RX8 TX8 11 ∈ lw_ok := lw_i2 121 rfl rfl
theorem wY_X8_12 : u_lay RX8 TX8 12 ∈ lw_ok := lw_i2 123 rfl rfl
theorem gIX8 : ∀ w ∈ u_ws RX8 TX8 13, w ∈ lw_ok := List.forall_mem_cons.mpr ⟨wY_X8_0, List.forall_mem_cons.mpr ⟨wY_X8_1, List.forall_mem_cons.mpr ⟨wY_X8_2, List.forall_mem_cons.mpr ⟨wY_X8_3, List.forall_mem_cons.mpr ⟨wY_X8_4, List.forall_mem_cons.mpr ⟨wY_X8_5, List.forall_mem_cons.mpr ⟨wY_X8_6, List.forall_mem_cons.mpr ⟨wY_X8_7, List.forall_mem_cons.mpr ⟨wY_X8_8, List.forall_mem_cons.mpr ⟨wY_X8_9, List.forall_mem_cons.mpr ⟨wY_X8_10, List.forall_mem_cons.mpr ⟨wY_X8_11, List.forall_mem_cons.mpr ⟨wY_X8_12, fun _ h => absurd h List.not_mem_nil⟩⟩⟩⟩⟩⟩⟩⟩⟩⟩⟩⟩⟩
theorem gCX8 (l : Launch) (D : va_G) (c : Nat → ClassId) (H0 : Heap) (sa : Nat × Nat × (Nat → Int32)) : sCl (gG l D c H0 sa) 8 (RX8, TX8, 13) tyX8 := ⟨rfl, gIX8, tyX8_ok, nmX8⟩
theorem wY_X9_0 : u_lay RX9 TX9 0 ∈ lw_ok := lw_i3 215 rfl rfl
theorem wY_X9_1 : u_lay RX9 TX9 1 ∈ lw_ok := lw_i3 217 rfl rfl
theorem wY_X9_2 : u_lay RX9 TX9 2 ∈ lw_ok := lw_i3 219 rfl rfl
theorem wY_X9_3 : u_lay RX9 TX9 3 ∈ lw_ok := lw_i3 221 rfl rfl
theorem wY_X9_4 : u_lay RX9 TX9 4 ∈ lw_ok := lw_i3 223 rfl rfl
theorem wY_X9_5 : u_lay RX9 TX9 5 ∈ lw_ok := lw_i3 225 rfl rfl
theorem wY_X9_6 : u_lay RX9 TX9 6 ∈ lw_ok := lw_i3 227 rfl rfl
theorem wY_X9_7 : u_lay RX9 TX9 7 ∈ lw_ok := lw_i3 229 rfl rfl
theorem wY_X9_8 : u_lay RX9 TX9 8 ∈ lw_ok := lw_i3 231 rfl rfl
theorem gIX9 : ∀ w ∈ u_ws RX9 TX9 9, w ∈ lw_ok := List.forall_mem_cons.mpr ⟨wY_X9_0, List.forall_mem_cons.mpr ⟨wY_X9_1, List.forall_mem_cons.mpr ⟨wY_X9_2, List.forall_mem_cons.mpr ⟨wY_X9_3, List.forall_mem_cons.mpr ⟨wY_X9_4, List.forall_mem_cons.mpr ⟨wY_X9_5, List.forall_mem_cons.mpr ⟨wY_X9_6, List.forall_mem_cons.mpr ⟨wY_X9_7, List.forall_mem_cons.mpr ⟨wY_X9_8, fun _ h => absurd h List.not_mem_nil⟩⟩⟩⟩⟩⟩⟩⟩⟩
theorem gCX9 (l : Launch) (D : va_G) (c : Nat → ClassId) (H0 : Heap) (sa : Nat × Nat × (Nat → Int32)) : sCl (gG l D c H0 sa) 9 (RX9, TX9, 9) tyX9 := ⟨rfl, gIX9, tyX9_ok, nmX9⟩
theorem wY_X10_0 : u_lay RX10 TX10 0 ∈ lw_ok := lw_i1 165 rfl rfl
theorem wY_X10_1 : u_lay RX10 TX10 1 ∈ lw_ok := lw_i1 167 rfl rfl
theorem wY_X10_2 : u_lay RX10 TX10 2 ∈ lw_ok := lw_i1 169 rfl rfl
theorem wY_X10_3 : u_lay RX10 TX10 3 ∈ lw_ok := lw_i1 171 rfl rfl
theorem wY_X10_4 : u_lay RX10 TX10 4 ∈ lw_ok := lw_i1 173 rfl rfl
theorem wY_X10_5 : u_lay RX10 TX10 5 ∈ lw_ok := lw_i1 175 rfl rfl
theorem wY_X10_6 : u_lay RX10 TX10 6 ∈ lw_ok := lw_i1 177 rfl rfl
theorem wY_X10_7 : u_lay RX10 TX10 7 ∈ lw_ok := lw_i1 179 rfl rfl
theorem wY_X10_8 : u_lay RX10 TX10 8 ∈ lw_ok := lw_i1 181 rfl rfl
theorem wY_X10_9 : u_lay RX10 TX10 9 ∈ lw_ok := lw_i1 183 rfl rfl
theorem wY_X10_10 : u_lay RX10 TX10 10 ∈ lw_ok := lw_i1 185 rfl rfl
theorem wY_X10_11 : u_lay RX10 TX10 11 ∈ lw_ok := lw_i1 187 rfl rfl
theorem wY_X10_12 : u_lay RX10 TX10 12 ∈ lw_ok := lw_i1 189 rfl rfl
theorem wY_X10_13 : u_lay RX10 TX10 13 ∈ lw_ok := lw_i1 191 rfl rfl
theorem wY_X10_14 : u_lay RX10 TX10 14 ∈ lw_ok := lw_i1 193 rfl rfl
theorem wY_X10_15 : u_lay RX10 TX10 15 ∈ lw_ok := lw_i1 195 rfl rfl
theorem wY_X10_16 : u_lay RX10 TX10 16 ∈ lw_ok := lw_i1 197 rfl rfl
theorem wY_X10_17 : u_lay RX10 TX10 17 ∈ lw_ok := lw_i1 199 rfl rfl
theorem wY_X10_18 : u_lay RX10 TX10 18 ∈ lw_ok := lw_i1 201 rfl rfl
theorem gIX10 : ∀ w ∈ u_ws RX10 TX10 19, w ∈ lw_ok := List.forall_mem_cons.mpr ⟨wY_X10_0, List.forall_mem_cons.mpr ⟨wY_X10_1, List.forall_mem_cons.mpr ⟨wY_X10_2, List.forall_mem_cons.mpr ⟨wY_X10_3, List.forall_mem_cons.mpr ⟨wY_X10_4, List.forall_mem_cons.mpr ⟨wY_X10_5, List.forall_mem_cons.mpr ⟨wY_X10_6, List.forall_mem_cons.mpr ⟨wY_X10_7, List.forall_mem_cons.mpr ⟨wY_X10_8, List.forall_mem_cons.mpr ⟨wY_X10_9, List.forall_mem_cons.mpr ⟨wY_X10_10, List.forall_mem_cons.mpr ⟨wY_X10_11, List.forall_mem_cons.mpr ⟨wY_X10_12, List.forall_mem_cons.mpr ⟨wY_X10_13, List.forall_mem_cons.mpr ⟨wY_X10_14, List.forall_mem_cons.mpr ⟨wY_X10_15, List.forall_mem_cons.mpr ⟨wY_X10_16, List.forall_mem_cons.mpr ⟨wY_X10_17, List.forall_mem_cons.mpr ⟨wY_X10_18, fun _ h => absurd h List.not_mem_nil⟩⟩⟩⟩⟩⟩⟩⟩⟩⟩⟩⟩⟩⟩⟩⟩⟩⟩⟩
theorem gCX10 (l : Launch) (D : va_G) (c : Nat → ClassId) (H0 : Heap) (sa : Nat × Nat × (Nat → Int32)) : sCl (gG l D c H0 sa) 10 (RX10, TX10, 19) tyX10 := ⟨rfl, gIX10, tyX10_ok, nmX10⟩
theorem wY_X11_0 : u_lay RX11 TX11 0 ∈ lw_ok := lw_i3 66 rfl rfl
theorem wY_X11_1 : u_lay RX11 TX11 1 ∈ lw_ok := lw_i3 68 rfl rfl
theorem wY_X11_2 : u_lay RX11 TX11 2 ∈ lw_ok := lw_i3 70 rfl rfl
theorem wY_X11_3 : u_lay RX11 TX11 3 ∈ lw_ok := lw_i3 72 rfl rfl
theorem wY_X11_4 : u_lay RX11 TX11 4 ∈ lw_ok := lw_i3 74 rfl rfl
theorem wY_X11_5 : u_lay RX11 TX11 5 ∈ lw_ok := lw_i3 76 rfl rfl
theorem wY_X11_6 : u_lay RX11 TX11 6 ∈ lw_ok := lw_i3 78 rfl rfl
theorem wY_X11_7 : u_lay RX11 TX11 7 ∈ lw_ok := lw_i3 80 rfl rfl
theorem wY_X11_8 : u_lay RX11 TX11 8 ∈ lw_ok := lw_i3 82 rfl rfl
theorem wY_X11_9 : u_lay RX11 TX11 9 ∈ lw_ok := lw_i3 84 rfl rfl
theorem wY_X11_10 : u_lay RX11 TX11 10 ∈ lw_ok := lw_i3 86 rfl rfl
theorem wY_X11_11 : u_lay RX11 TX11 11 ∈ lw_ok := lw_i3 88 rfl rfl
theorem gIX11 : ∀ w ∈ u_ws RX11 TX11 12, w ∈ lw_ok := List.forall_mem_cons.mpr ⟨wY_X11_0, List.forall_mem_cons.mpr ⟨wY_X11_1, List.forall_mem_cons.mpr ⟨wY_X11_2, List.forall_mem_cons.mpr ⟨wY_X11_3, List.forall_mem_cons.mpr ⟨wY_X11_4, List.forall_mem_cons.mpr ⟨wY_X11_5, List.forall_mem_cons.mpr ⟨wY_X11_6, List.forall_mem_cons.mpr ⟨wY_X11_7, List.forall_mem_cons.mpr ⟨wY_X11_8, List.forall_mem_cons.mpr ⟨wY_X11_9, List.forall_mem_cons.mpr ⟨wY_X11_10, List.forall_mem_cons.mpr ⟨wY_X11_11, fun _ h => absurd h List.not_mem_nil⟩⟩⟩⟩⟩⟩⟩⟩⟩⟩⟩⟩
theorem gCX11 (l : Launch) (D : va_G) (c : Nat → ClassId) (H0 : Heap) (sa : Nat × Nat × (Nat → Int32)) : sCl (gG l D c H0 sa) 11 (RX11, TX11, 12) tyX11 := ⟨rfl, gIX11, tyX11_ok, nmX11⟩
theorem wY_X12_0 : u_lay RX12 TX12 0 ∈ lw_ok := lw_i9 196 rfl rfl
theorem wY_X12_1 : u_lay RX12 TX12 1 ∈ lw_ok := lw_i9 198 rfl rfl
theorem wY_X12_2 : u_lay RX12 TX12 2 ∈ lw_ok := lw_i9 200 rfl rfl
theorem wY_X12_3 : u_lay RX12 TX12 3 ∈ lw_ok := lw_i9 202 rfl rfl
theorem wY_X12_4 : u_lay RX12 TX12 4 ∈ lw_ok := lw_i9 204 rfl rfl
theorem wY_X12_5 : u_lay RX12 TX12 5 ∈ lw_ok := lw_i9 206 rfl rfl
theorem wY_X12_6 : u_lay RX12 TX12 6 ∈ lw_ok := lw_i9 208 rfl rfl
theorem wY_X12_7 : u_lay RX12 TX12 7 ∈ lw_ok := lw_i9 210 rfl rfl
theorem wY_X12_8 : u_lay RX12 TX12 8 ∈ lw_ok := lw_i9 212 rfl rfl
theorem wY_X12_9 : u_lay RX12 TX12 9 ∈ lw_ok := lw_i9 214 rfl rfl
theorem wY_X12_10 : u_lay RX12 TX12 10 ∈ lw_ok := lw_i9 216 rfl rfl
theorem wY_X12_11 : u_lay RX12 TX12 11 ∈ lw_ok := lw_i9 218 rfl rfl
theorem wY_X12_12 : u_lay RX12 TX12 12 ∈ lw_ok := lw_i9 220 rfl rfl
theorem wY_X12_13 : u_lay RX12 TX12 13 ∈ lw_ok := lw_i9 222 rfl rfl
theorem wY_X12_14 : u_lay RX12 TX12 14 ∈ lw_ok := lw_i9 224 rfl rfl
theorem wY_X12_15 : u_lay RX12 TX12 15 ∈ lw_ok := lw_i9 226 rfl rfl
theorem wY_X12_16 : u_lay RX12 TX12 16 ∈ lw_ok := lw_i9 228 rfl rfl
theorem wY_X12_17 : u_lay RX12 TX12 17 ∈ lw_ok := lw_i9 230 rfl rfl
theorem wY_X12_18 : u_lay RX12 TX12 18 ∈ lw_ok := lw_i9 232 rfl rfl
theorem wY_X12_19 : u_lay RX12 TX12 19 ∈ lw_ok := lw_i9 234 rfl rfl
theorem wY_X12_20 : u_lay RX12 TX12 20 ∈ lw_ok := lw_i9 236 rfl rfl
theorem wY_X12_21 : u_lay RX12 TX12 21 ∈ lw_ok := lw_i9 238 rfl rfl
theorem wY_X12_22 : u_lay RX12 TX12 22 ∈ lw_ok := lw_i10 0 rfl rfl
theorem wY_X12_23 : u_lay RX12 TX12 23 ∈ lw_ok := lw_i10 2 rfl rfl
theorem wY_X12_24 : u_lay RX12 TX12 24 ∈ lw_ok := lw_i10 4 rfl rfl
theorem wY_X12_25 : u_lay RX12 TX12 25 ∈ lw_ok := lw_i10 6 rfl rfl
theorem wY_X12_26 : u_lay RX12 TX12 26 ∈ lw_ok := lw_i10 8 rfl rfl
theorem wY_X12_27 : u_lay RX12 TX12 27 ∈ lw_ok := lw_i10 10 rfl rfl
theorem wY_X12_28 : u_lay RX12 TX12 28 ∈ lw_ok := lw_i10 12 rfl rfl
theorem wY_X12_29 : u_lay RX12 TX12 29 ∈ lw_ok := lw_i10 14 rfl rfl
theorem wY_X12_30 : u_lay RX12 TX12 30 ∈ lw_ok := lw_i10 16 rfl rfl
theorem wY_X12_31 : u_lay RX12 TX12 31 ∈ lw_ok := lw_i10 18 rfl rfl
theorem wY_X12_32 : u_lay RX12 TX12 32 ∈ lw_ok := lw_i10 20 rfl rfl
theorem wY_X12_33 : u_lay RX12 TX12 33 ∈ lw_ok := lw_i10 22 rfl rfl
theorem wY_X12_34 : u_lay RX12 TX12 34 ∈ lw_ok := lw_i10 24 rfl rfl
theorem wY_X12_35 : u_lay RX12 TX12 35 ∈ lw_ok := lw_i10 26 rfl rfl
theorem wY_X12_36 : u_lay RX12 TX12 36 ∈ lw_ok := lw_i10 28 rfl rfl
theorem wY_X12_37 : u_lay RX12 TX12 37 ∈ lw_ok := lw_i10 30 rfl rfl
theorem wY_X12_38 : u_lay RX12 TX12 38 ∈ lw_ok := lw_i10 32 rfl rfl
theorem wY_X12_39 : u_lay RX12 TX12 39 ∈ lw_ok := lw_i10 34 rfl rfl
theorem wY_X12_40 : u_lay RX12 TX12 40 ∈ lw_ok := lw_i10 36 rfl rfl
theorem wY_X12_41 : u_lay RX12 TX12 41 ∈ lw_ok := lw_i10 38 rfl rfl
theorem wY_X12_42 : u_lay RX12 TX12 42 ∈ lw_ok := lw_i10 40 rfl rfl
theorem wY_X12_43 : u_lay RX12 TX12 43 ∈ lw_ok := lw_i10 42 rfl rfl
theorem wY_X12_44 : u_lay RX12 TX12 44 ∈ lw_ok := lw_i10 44 rfl rfl
theorem wY_X12_45 : u_lay RX12 TX12 45 ∈ lw_ok := lw_i10 46 rfl rfl
theorem wY_X12_46 : u_lay RX12 TX12 46 ∈ lw_ok := lw_i10 48 rfl rfl
theorem wY_X12_47 : u_lay RX12 TX12 47 ∈ lw_ok := lw_i10 50 rfl rfl
theorem wY_X12_48 : u_lay RX12 TX12 48 ∈ lw_ok := lw_i10 52 rfl rfl
theorem wY_X12_49 : u_lay RX12 TX12 49 ∈ lw_ok := lw_i10 54 rfl rfl
theorem wY_X12_50 : u_lay RX12 TX12 50 ∈ lw_ok := lw_i10 56 rfl rfl
theorem wY_X12_51 : u_lay RX12 TX12 51 ∈ lw_ok := lw_i10 58 rfl rfl
theorem wY_X12_52 : u_lay RX12 TX12 52 ∈ lw_ok := lw_i10 60 rfl rfl
theorem wY_X12_53 : u_lay RX12 TX12 53 ∈ lw_ok := lw_i10 62 rfl rfl
theorem wY_X12_54 : u_lay RX12 TX12 54 ∈ lw_ok := lw_i10 64 rfl rfl
theorem wY_X12_55 : u_lay RX12 TX12 55 ∈ lw_ok := lw_i10 66 rfl rfl
theorem wY_X12_56 : u_lay RX12 TX12 56 ∈ lw_ok := lw_i10 68 rfl rfl
theorem wY_X12_57 : u_lay RX12 TX12 57 ∈ lw_ok := lw_i10 70 rfl rfl
theorem wY_X12_58 : u_lay RX12 TX12 58 ∈ lw_ok := lw_i10 72 rfl rfl
theorem wY_X12_59 : u_lay RX12 TX12 59 ∈ lw_ok := lw_i10 74 rfl rfl
theorem wY_X12_60 : u_lay RX12 TX12 60 ∈ lw_ok := lw_i10 76 rfl rfl
theorem wY_X12_61 : u_lay RX12 TX12 61 ∈ lw_ok := lw_i10 78 rfl rfl
theorem wY_X12_62 : u_lay RX12 TX12 62 ∈ lw_ok := lw_i10 80 rfl rfl
theorem wY_X12_63 : u_lay RX12 TX12 63 ∈ lw_ok := lw_i10 82 rfl rfl
theorem wY_X12_64 : u_lay RX12 TX12 64 ∈ lw_ok := lw_i10 84 rfl rfl
theorem wY_X12_65 : u_lay RX12 TX12 65 ∈ lw_ok := lw_i10 86 rfl rfl
theorem wY_X12_66 : u_lay RX12 TX12 66 ∈ lw_ok := lw_i10 88 rfl rfl
theorem wY_X12_67 : u_lay RX12 TX12 67 ∈ lw_ok := lw_i10 90 rfl rfl
theorem wY_X12_68 : u_lay RX12 TX12 68 ∈ lw_ok := lw_i10 92 rfl rfl
theorem wY_X12_69 : u_lay RX12 TX12 69 ∈ lw_ok := lw_i10 94 rfl rfl
theorem wY_X12_70 : u_lay RX12 TX12 70 ∈ lw_ok := lw_i10 96 rfl rfl
theorem wY_X12_71 : u_lay RX12 TX12 71 ∈ lw_ok := lw_i10 98 rfl rfl
theorem wY_X12_72 : u_lay RX12 TX12 72 ∈ lw_ok := lw_i10 100 rfl rfl
theorem wY_X12_73 : u_lay RX12 TX12 73 ∈ lw_ok := lw_i10 102 rfl rfl
theorem wY_X12_74 : u_lay RX12 TX12 74 ∈ lw_ok := lw_i10 104 rfl rfl
theorem wY_X12_75 : u_lay RX12 TX12 75 ∈ lw_ok := lw_i10 106 rfl rfl
theorem wY_X12_76 : u_lay RX12 TX12 76 ∈ lw_ok := lw_i10 108 rfl rfl
theorem wY_X12_77 : u_lay RX12 TX12 77 ∈ lw_ok := lw_i10 110 rfl rfl
theorem wY_X12_78 : u_lay RX12 TX12 78 ∈ lw_ok := lw_i10 112 rfl rfl
theorem wY_X12_79 : u_lay RX12 TX12 79 ∈ lw_ok := lw_i10 114 rfl rfl
theorem wY_X12_80 : u_lay RX12 TX12 80 ∈ lw_ok := lw_i10 116 rfl rfl
theorem wY_X12_81 : u_lay RX12 TX12 81 ∈ lw_ok := lw_i10 118 rfl rfl
theorem wY_X12_82 : u_lay RX12 TX12 82 ∈ lw_ok := lw_i10 120 rfl rfl
theorem wY_X12_83 : u_lay RX12 TX12 83 ∈ lw_ok := lw_i10 122 rfl rfl
theorem wY_X12_84 : u_lay RX12 TX12 84 ∈ lw_ok := lw_i10 124 rfl rfl
theorem wY_X12_85 : u_lay RX12 TX12 85 ∈ lw_ok := lw_i10 126 rfl rfl
theorem wY_X12_86 : u_lay RX12 TX12 86 ∈ lw_ok := lw_i10 128 rfl rfl
theorem wY_X12_87 : u_lay RX12 TX12 87 ∈ lw_ok := lw_i10 130 rfl rfl
theorem wY_X12_88 : u_lay RX12 TX12 88 ∈ lw_ok := lw_i10 132 rfl rfl
theorem wY_X12_89 : u_lay RX12 TX12 89 ∈ lw_ok := lw_i10 134 rfl rfl
theorem wY_X12_90 : u_lay RX12 TX12 90 ∈ lw_ok := lw_i10 136 rfl rfl
theorem wY_X12_91 : u_lay RX12 TX12 91 ∈ lw_ok := lw_i10 138 rfl rfl
theorem wY_X12_92 : u_lay RX12 TX12 92 ∈ lw_ok := lw_i10 140 rfl rfl
theorem wY_X12_93 : u_lay RX12 TX12 93 ∈ lw_ok := lw_i10 142 rfl rfl
theorem wY_X12_94 : u_lay RX12 TX12 94 ∈ lw_ok := lw_i10 144 rfl rfl
theorem wY_X12_95 : u_lay RX12 TX12 95 ∈ lw_ok := lw_i10 146 rfl rfl
theorem wY_X12_96 : u_lay RX12 TX12 96 ∈ lw_ok := lw_i10 148 rfl rfl
theorem wY_X12_97 : u_lay RX12 TX12 97 ∈ lw_ok := lw_i10 150 rfl rfl
theorem wY_X12_98 : u_lay RX12 TX12 98 ∈ lw_ok := lw_i10 152 rfl rfl
theorem wY_X12_99 : u_lay RX12 TX12 99 ∈ lw_ok := lw_i10 154 rfl rfl
theorem wY_X12_100 : u_lay RX12 TX12 100 ∈ lw_ok := lw_i10 156 rfl rfl
theorem wY_X12_101 : u_lay RX12 TX12 101 ∈ lw_ok := lw_i10 158 rfl rfl
theorem wY_X12_102 : u_lay RX12 TX12 102 ∈ lw_ok := lw_i10 160 rfl rfl
theorem wY_X12_103 : u_lay RX12 TX12 103 ∈ lw_ok := lw_i10 162 rfl rfl
theorem wY_X12_104 : u_lay RX12 TX12 104 ∈ lw_ok := lw_i10 164 rfl rfl
theorem wY_X12_105 : u_lay RX12 TX12 105 ∈ lw_ok := lw_i10 166 rfl rfl
theorem wY_X12_106 : u_lay RX12 TX12 106 ∈ lw_ok := lw_i10 168 rfl rfl
theorem wY_X12_107 : u_lay RX12 TX12 107 ∈ lw_ok := lw_i10 170 rfl rfl
theorem wY_X12_108 : u_lay RX12 TX12 108 ∈ lw_ok := lw_i10 172 rfl rfl
theorem wY_X12_109 : u_lay RX12 TX12 109 ∈ lw_ok := lw_i10 174 rfl rfl
theorem wY_X12_110 : u_lay RX12 TX12 110 ∈ lw_ok := lw_i10 176 rfl rfl
theorem wY_X12_111 : u_lay RX12 TX12 111 ∈ lw_ok := lw_i10 178 rfl rfl
theorem wY_X12_112 : u_lay RX12 TX12 112 ∈ lw_ok := lw_i10 180 rfl rfl
theorem wY_X12_113 : u_lay RX12 TX12 113 ∈ lw_ok := lw_i10 182 rfl rfl
theorem wY_X12_114 : u_lay RX12 TX12 114 ∈ lw_ok := lw_i10 184 rfl rfl
theorem wY_X12_115 : u_lay RX12 TX12 115 ∈ lw_ok := lw_i10 186 rfl rfl
theorem wY_X12_116 : u_lay RX12 TX12 116 ∈ lw_ok := lw_i10 188 rfl rfl
theorem wY_X12_117 : u_lay RX12 TX12 117 ∈ lw_ok := lw_i10 190 rfl rfl
theorem wY_X12_118 : u_lay RX12 TX12 118 ∈ lw_ok := lw_i10 192 rfl rfl
theorem wY_X12_119 : u_lay RX12 TX12 119 ∈ lw_ok := lw_i10 194 rfl rfl
theorem wY_X12_120 : u_lay RX12 TX12 120 ∈ lw_ok := lw_i10 196 rfl rfl
theorem wY_X12_121 : u_lay RX12 TX12 121 ∈ lw_ok := lw_i10 198 rfl rfl
theorem wY_X12_122 : u_lay RX12 TX12 122 ∈ lw_ok := lw_i10 200 rfl rfl
theorem wY_X12_123 : u_lay RX12 TX12 123 ∈ lw_ok := lw_i10 202 rfl rfl
theorem wY_X12_124 : u_lay RX12 TX12 124 ∈ lw_ok := lw_i10 204 rfl rfl
theorem wY_X12_125 : u_lay RX12 TX12 125 ∈ lw_ok := lw_i10 206 rfl rfl
theorem gIX12 : ∀ w ∈ u_ws RX12 TX12 126, w ∈ lw_ok := List.forall_mem_cons.mpr ⟨wY_X12_0, List.forall_mem_cons.mpr ⟨wY_X12_1, List.forall_mem_cons.mpr ⟨wY_X12_2, List.forall_mem_cons.mpr ⟨wY_X12_3, List.forall_mem_cons.mpr ⟨wY_X12_4, List.forall_mem_cons.mpr ⟨wY_X12_5, List.forall_mem_cons.mpr ⟨wY_X12_6, List.forall_mem_cons.mpr ⟨wY_X12_7, List.forall_mem_cons.mpr ⟨wY_X12_8, List.forall_mem_cons.mpr ⟨wY_X12_9, List.forall_mem_cons.mpr ⟨wY_X12_10, List.forall_mem_cons.mpr ⟨wY_X12_11, List.forall_mem_cons.mpr ⟨wY_X12_12, List.forall_mem_cons.mpr ⟨wY_X12_13, List.forall_mem_cons.mpr ⟨wY_X12_14, List.forall_mem_cons.mpr ⟨wY_X12_15, List.forall_mem_cons.mpr ⟨wY_X12_16, List.forall_mem_cons.mpr ⟨wY_X12_17, List.forall_mem_cons.mpr ⟨wY_X12_18, List.forall_mem_cons.mpr ⟨wY_X12_19, List.forall_mem_cons.mpr ⟨wY_X12_20, List.forall_mem_cons.mpr ⟨wY_X12_21, List.forall_mem_cons.mpr ⟨wY_X12_22, List.forall_mem_cons.mpr ⟨wY_X12_23, List.forall_mem_cons.mpr ⟨wY_X12_24, List.forall_mem_cons.mpr ⟨wY_X12_25, List.forall_mem_cons.mpr ⟨wY_X12_26, List.forall_mem_cons.mpr ⟨wY_X12_27, List.forall_mem_cons.mpr ⟨wY_X12_28, List.forall_mem_cons.mpr ⟨wY_X12_29, List.forall_mem_cons.mpr ⟨wY_X12_30, List.forall_mem_cons.mpr ⟨wY_X12_31, List.forall_mem_cons.mpr ⟨wY_X12_32, List.forall_mem_cons.mpr ⟨wY_X12_33, List.forall_mem_cons.mpr ⟨wY_X12_34, List.forall_mem_cons.mpr ⟨wY_X12_35, List.forall_mem_cons.mpr ⟨wY_X12_36, List.forall_mem_cons.mpr ⟨wY_X12_37, List.forall_mem_cons.mpr ⟨wY_X12_38, List.forall_mem_cons.mpr ⟨wY_X12_39, List.forall_mem_cons.mpr ⟨wY_X12_40, List.forall_mem_cons.mpr ⟨wY_X12_41, List.forall_mem_cons.mpr ⟨wY_X12_42, List.forall_mem_cons.mpr ⟨wY_X12_43, List.forall_mem_cons.mpr ⟨wY_X12_44, List.forall_mem_cons.mpr ⟨wY_X12_45, List.forall_mem_cons.mpr ⟨wY_X12_46, List.forall_mem_cons.mpr ⟨wY_X12_47, List.forall_mem_cons.mpr ⟨wY_X12_48, List.forall_mem_cons.mpr ⟨wY_X12_49, List.forall_mem_cons.mpr ⟨wY_X12_50, List.forall_mem_cons.mpr ⟨wY_X12_51, List.forall_mem_cons.mpr ⟨wY_X12_52, List.forall_mem_cons.mpr ⟨wY_X12_53, List.forall_mem_cons.mpr ⟨wY_X12_54, List.forall_mem_cons.mpr ⟨wY_X12_55, List.forall_mem_cons.mpr ⟨wY_X12_56, List.forall_mem_cons.mpr ⟨wY_X12_57, List.forall_mem_cons.mpr ⟨wY_X12_58, List.forall_mem_cons.mpr ⟨wY_X12_59, List.forall_mem_cons.mpr ⟨wY_X12_60, List.forall_mem_cons.mpr ⟨wY_X12_61, List.forall_mem_cons.mpr ⟨wY_X12_62, List.forall_mem_cons.mpr ⟨wY_X12_63, List.forall_mem_cons.mpr ⟨wY_X12_64, List.forall_mem_cons.mpr ⟨wY_X12_65, List.forall_mem_cons.mpr ⟨wY_X12_66, List.forall_mem_cons.mpr ⟨wY_X12_67, List.forall_mem_cons.mpr ⟨wY_X12_68, List.forall_mem_cons.mpr ⟨wY_X12_69, List.forall_mem_cons.mpr ⟨wY_X12_70, List.forall_mem_cons.mpr ⟨wY_X12_71, List.forall_mem_cons.mpr ⟨wY_X12_72, List.forall_mem_cons.mpr ⟨wY_X12_73, List.forall_mem_cons.mpr ⟨wY_X12_74, List.forall_mem_cons.mpr ⟨wY_X12_75, List.forall_mem_cons.mpr ⟨wY_X12_76, List.forall_mem_cons.mpr ⟨wY_X12_77, List.forall_mem_cons.mpr ⟨wY_X12_78, List.forall_mem_cons.mpr ⟨wY_X12_79, List.forall_mem_cons.mpr ⟨wY_X12_80, List.forall_mem_cons.mpr ⟨wY_X12_81, List.forall_mem_cons.mpr ⟨wY_X12_82, List.forall_mem_cons.mpr ⟨wY_X12_83, List.forall_mem_cons.mpr ⟨wY_X12_84, List.forall_mem_cons.mpr ⟨wY_X12_85, List.forall_mem_cons.mpr ⟨wY_X12_86, List.forall_mem_cons.mpr ⟨wY_X12_87, List.forall_mem_cons.mpr ⟨wY_X12_88, List.forall_mem_cons.mpr ⟨wY_X12_89, List.forall_mem_cons.mpr ⟨wY_X12_90, List.forall_mem_cons.mpr ⟨wY_X12_91, List.forall_mem_cons.mpr ⟨wY_X12_92, List.forall_mem_cons.mpr ⟨wY_X12_93, List.forall_mem_cons.mpr ⟨wY_X12_94, List.forall_mem_cons.mpr ⟨wY_X12_95, List.forall_mem_cons.mpr ⟨wY_X12_96, List.forall_mem_cons.mpr ⟨wY_X12_97, List.forall_mem_cons.mpr ⟨wY_X12_98, List.forall_mem_cons.mpr ⟨wY_X12_99, List.forall_mem_cons.mpr ⟨wY_X12_100, List.forall_mem_cons.mpr ⟨wY_X12_101, List.forall_mem_cons.mpr ⟨wY_X12_102, List.forall_mem_cons.mpr ⟨wY_X12_103, List.forall_mem_cons.mpr ⟨wY_X12_104, List.forall_mem_cons.mpr ⟨wY_X12_105, List.forall_mem_cons.mpr ⟨wY_X12_106, List.forall_mem_cons.mpr ⟨wY_X12_107, List.forall_mem_cons.mpr ⟨wY_X12_108, List.forall_mem_cons.mpr ⟨wY_X12_109, List.forall_mem_cons.mpr ⟨wY_X12_110, List.forall_mem_cons.mpr ⟨wY_X12_111, List.forall_mem_cons.mpr ⟨wY_X12_112, List.forall_mem_cons.mpr ⟨wY_X12_113, List.forall_mem_cons.mpr ⟨wY_X12_114, List.forall_mem_cons.mpr ⟨wY_X12_115, List.forall_mem_cons.mpr ⟨wY_X12_116, List.forall_mem_cons.mpr ⟨wY_X12_117, List.forall_mem_cons.mpr ⟨wY_X12_118, List.forall_mem_cons.mpr ⟨wY_X12_119, List.forall_mem_cons.mpr ⟨wY_X12_120, List.forall_mem_cons.mpr ⟨wY_X12_121, List.forall_mem_cons.mpr ⟨wY_X12_122, List.forall_mem_cons.mpr ⟨wY_X12_123, List.forall_mem_cons.mpr ⟨wY_X12_124, List.forall_mem_cons.mpr ⟨wY_X12_125, fun _ h => absurd h List.not_mem_nil⟩⟩⟩⟩⟩⟩⟩⟩⟩⟩⟩⟩⟩⟩⟩⟩⟩⟩⟩⟩⟩⟩⟩⟩⟩⟩⟩⟩⟩⟩⟩⟩⟩⟩⟩⟩⟩⟩⟩⟩⟩⟩⟩⟩⟩⟩⟩⟩⟩⟩⟩⟩⟩⟩⟩⟩⟩⟩⟩⟩⟩⟩⟩⟩⟩⟩⟩⟩⟩⟩⟩⟩⟩⟩⟩⟩⟩⟩⟩⟩⟩⟩⟩⟩⟩⟩⟩⟩⟩⟩⟩⟩⟩⟩⟩⟩⟩⟩⟩⟩⟩⟩⟩⟩⟩⟩⟩⟩⟩⟩⟩⟩⟩⟩⟩⟩⟩⟩⟩⟩⟩⟩⟩⟩⟩⟩
theorem gCX12 (l : Launch) (D : va_G) (c : Nat → ClassId) (H0 : Heap) (sa : Nat × Nat × (Nat → Int32)) : sCl (gG l D c H0 sa) 12 (RX12, TX12, 126) tyX12 := ⟨rfl, gIX12, tyX12_ok, nmX12⟩
end
section
section SVK
variable {g : sG} {M : sM} {R : Room} {Z : sZT} {pc : Nat} {lv : List (Nat × Value)} {st : List Value} {hp : sHp} {ce sl hn : Nat} {hf : Nat → sE}
theorem lt_t {a n : Nat} (h : Nat.ble (a + 1) n = true) : a < n := Nat.le_of_ble_eq_true h
theorem le_t {a n : Nat} (h : Nat.ble a n = true) : a ≤ n := Nat.le_of_ble_eq_true h
theorem vp_in_k {i : Int32} {k n : Nat} (hk : i.toNatClampNeg = k) (h0 : ¬ i < 0) (hn : Nat.ble (k + 1) n = true) : vp_in i n := fun h => h.elim h0 (fun q => by rw [hk] at q; exact absurd (lt_t hn) (Nat.not_lt.mpr q))
theorem sv_heap {hp' : sHp} (h1 : hp.1 = hp'.1) (h2 : ∀ j, j < hp'.1 → hp.2 j = hp'.2 j) (k : sV g M R Z pc lv st hp' ce sl) : sV g M R Z pc lv st hp ce sl := by
  intro p e s m args below meth c H locs ls X r hl h
  exact k p e s m args below meth c H locs ls X ⟨by rw [← h1]; exact r.1, fun i hi => by rw [← h2 i hi]; exact r.2.1 i (by rw [h1]; exact hi), r.2.2⟩ hl h
theorem sv_lv {lv' : List (Nat × Value)} (h : ∀ q ∈ lv', q ∈ lv) (k : sV g M R Z pc lv' st hp ce sl) : sV g M R Z pc lv st hp ce sl := by
  intro p e s m args below meth c H locs ls X r hl hh
  refine k p e s m args below meth c H locs ls X r hl ⟨hh.1, hh.2.1, fun q hq => ?_⟩
  obtain ⟨x, hx, rfl⟩ := List.mem_map.mp hq
  exact hh.2.2 _ (List.mem_map.mpr ⟨x, h x hx, rfl⟩)
theorem sv_wide {ce' sl' : Nat} (h1 : ce ≤ ce') (h2 : sl ≤ sl') (k : sV g M R Z pc lv st hp ce' sl') : sV g M R Z pc lv st hp ce sl := fun p e s m args below meth c H locs ls X r hl h => W.widen h1 h2 (k p e s m args below meth c H locs ls X r hl h)

theorem sw_getfield {index ci a : Nat} {T : vw_C} {ty : Nat → FieldType} {fs : List Value} {v : Value} (hd : decode M.2.1 pc = .ok (.getfield index, 3)) (hC : sCl g ci T ty) (k : Nat) (hk : k < T.2.2) (hw : sFl T M.1.cls index k ∈ sg_ws g) (ha : Nat.ble (a + 1) hn = true) (he : hf a = .inr (ci, fs)) (hv : vp_V fs k = v) (kk : sV g M R Z (pc + 3) lv (v :: st) (hn, hf) ce sl) : sV g M R Z pc lv (.ref a :: st) (hn, hf) ce sl := sv_getfield hd hC k hk hw (lt_t ha) he hv kk
theorem sw_putfield {index ci a : Nat} {T : vw_C} {ty : Nat → FieldType} {fs : List Value} {v : Value} (hd : decode M.2.1 pc = .ok (.putfield index, 3)) (hC : sCl g ci T ty) (k : Nat) (hk : k < T.2.2) (hw : sFl T M.1.cls index k ∈ sg_ws g) (hfin : (T.2.1 k).2.2.2 = false) (ha : Nat.ble (a + 1) hn = true) (he : hf a = .inr (ci, fs)) (hna : ∀ b, narrow (ty k) (rv b v) = rv b v) (hft : ∀ b, fits (ty k) (rv b v) = true) (hlen : Nat.ble (k + 1) fs.length = true) (kk : sV g M R Z (pc + 3) lv st (hn, sUp hf a (.inr (ci, fs.set k v))) ce sl) : sV g M R Z pc lv (v :: .ref a :: st) (hn, hf) ce sl := sv_putfield hd hC k hk hw hfin (lt_t ha) he hna hft (lt_t hlen) kk
theorem sw_putfinal {index ci a : Nat} {T : vw_C} {ty : Nat → FieldType} {fs : List Value} {v : Value} (hd : decode M.2.1 pc = .ok (.putfield index, 3)) (hC : sCl g ci T ty) (k : Nat) (hk : k < T.2.2) (hw : sFl T M.1.cls index k ∈ sg_ws g) (hfin : (T.2.1 k).2.2.2 = true) (hini : M.1.name = "<init>") (hdecl : (T.2.1 k).1 = M.1.cls) (ha : Nat.ble (a + 1) hn = true) (he : hf a = .inr (ci, fs)) (hna : ∀ b, narrow (ty k) (rv b v) = rv b v) (hft : ∀ b, fits (ty k) (rv b v) = true) (hlen : Nat.ble (k + 1) fs.length = true) (kk : sV g M R Z (pc + 3) lv st (hn, sUp hf a (.inr (ci, fs.set k v))) ce sl) : sV g M R Z pc lv (v :: .ref a :: st) (hn, hf) ce sl := sv_putfinal hd hC k hk hw hfin hini hdecl (lt_t ha) he hna hft (lt_t hlen) kk
theorem sw_iadd {x y v : Int32} (hd : decode M.2.1 pc = .ok (.iadd, 1)) (hv : x + y = v) (k : sV g M R Z (pc + 1) lv (.int v :: st) hp ce sl) : sV g M R Z (pc) lv (.int y :: .int x :: st) hp ce sl := sv_iadd hd (by rw [hv]; exact k)
theorem sw_isub {x y v : Int32} (hd : decode M.2.1 pc = .ok (.isub, 1)) (hv : x - y = v) (k : sV g M R Z (pc + 1) lv (.int v :: st) hp ce sl) : sV g M R Z (pc) lv (.int y :: .int x :: st) hp ce sl := sv_isub hd (by rw [hv]; exact k)
theorem sw_imul {x y v : Int32} (hd : decode M.2.1 pc = .ok (.imul, 1)) (hv : x * y = v) (k : sV g M R Z (pc + 1) lv (.int v :: st) hp ce sl) : sV g M R Z (pc) lv (.int y :: .int x :: st) hp ce sl := sv_imul hd (by rw [hv]; exact k)
theorem sw_iand {x y v : Int32} (hd : decode M.2.1 pc = .ok (.iand, 1)) (hv : x &&& y = v) (k : sV g M R Z (pc + 1) lv (.int v :: st) hp ce sl) : sV g M R Z (pc) lv (.int y :: .int x :: st) hp ce sl := sv_iand hd (by rw [hv]; exact k)
theorem sw_ior {x y v : Int32} (hd : decode M.2.1 pc = .ok (.ior, 1)) (hv : x ||| y = v) (k : sV g M R Z (pc + 1) lv (.int v :: st) hp ce sl) : sV g M R Z (pc) lv (.int y :: .int x :: st) hp ce sl := sv_ior hd (by rw [hv]; exact k)
theorem sw_ixor {x y v : Int32} (hd : decode M.2.1 pc = .ok (.ixor, 1)) (hv : x ^^^ y = v) (k : sV g M R Z (pc + 1) lv (.int v :: st) hp ce sl) : sV g M R Z (pc) lv (.int y :: .int x :: st) hp ce sl := sv_ixor hd (by rw [hv]; exact k)
theorem sw_ishl {x y v : Int32} (hd : decode M.2.1 pc = .ok (.ishl, 1)) (hv : x <<< (y &&& 31) = v) (k : sV g M R Z (pc + 1) lv (.int v :: st) hp ce sl) : sV g M R Z (pc) lv (.int y :: .int x :: st) hp ce sl := sv_ishl hd (by rw [hv]; exact k)
theorem sw_ishr {x y v : Int32} (hd : decode M.2.1 pc = .ok (.ishr, 1)) (hv : x >>> (y &&& 31) = v) (k : sV g M R Z (pc + 1) lv (.int v :: st) hp ce sl) : sV g M R Z (pc) lv (.int y :: .int x :: st) hp ce sl := sv_ishr hd (by rw [hv]; exact k)
theorem sw_idiv {x y v : Int32} (hd : decode M.2.1 pc = .ok (.idiv, 1)) (hne : ¬ y = 0) (hv : x / y = v) (k : sV g M R Z (pc + 1) lv (.int v :: st) hp ce sl) : sV g M R Z (pc) lv (.int y :: .int x :: st) hp ce sl := sv_idiv hd hne (by rw [hv]; exact k)
theorem sw_irem {x y v : Int32} (hd : decode M.2.1 pc = .ok (.irem, 1)) (hne : ¬ y = 0) (hv : x - x / y * y = v) (k : sV g M R Z (pc + 1) lv (.int v :: st) hp ce sl) : sV g M R Z (pc) lv (.int y :: .int x :: st) hp ce sl := sv_irem hd hne (by rw [hv]; exact k)
theorem sw_ineg {x v : Int32} (hd : decode M.2.1 pc = .ok (.ineg, 1)) (hv : -x = v) (k : sV g M R Z (pc + 1) lv (.int v :: st) hp ce sl) : sV g M R Z (pc) lv (.int x :: st) hp ce sl := sv_ineg hd (by rw [hv]; exact k)
theorem sw_ladd {x y v : Int64} (hd : decode M.2.1 pc = .ok (.ladd, 1)) (hv : x + y = v) (k : sV g M R Z (pc + 1) lv (.long v :: st) hp ce sl) : sV g M R Z (pc) lv (.long y :: .long x :: st) hp ce sl := sv_ladd hd (by rw [hv]; exact k)
theorem sw_lsub {x y v : Int64} (hd : decode M.2.1 pc = .ok (.lsub, 1)) (hv : x - y = v) (k : sV g M R Z (pc + 1) lv (.long v :: st) hp ce sl) : sV g M R Z (pc) lv (.long y :: .long x :: st) hp ce sl := sv_lsub hd (by rw [hv]; exact k)
theorem sw_land {x y v : Int64} (hd : decode M.2.1 pc = .ok (.land, 1)) (hv : x &&& y = v) (k : sV g M R Z (pc + 1) lv (.long v :: st) hp ce sl) : sV g M R Z (pc) lv (.long y :: .long x :: st) hp ce sl := sv_land hd (by rw [hv]; exact k)
theorem sw_lor {x y v : Int64} (hd : decode M.2.1 pc = .ok (.lor, 1)) (hv : x ||| y = v) (k : sV g M R Z (pc + 1) lv (.long v :: st) hp ce sl) : sV g M R Z (pc) lv (.long y :: .long x :: st) hp ce sl := sv_lor hd (by rw [hv]; exact k)
theorem sw_lcmp {x y : Int64} {v : Int32} (hd : decode M.2.1 pc = .ok (.lcmp, 1)) (hv : lg_cmp x y = v) (k : sV g M R Z (pc + 1) lv (.int v :: st) hp ce sl) : sV g M R Z (pc) lv (.long y :: .long x :: st) hp ce sl := sv_lcmp hd (by rw [hv]; exact k)
theorem sw_iinc {i : Nat} {n : Int} {x v : Int32} (hd : decode M.2.1 pc = .ok (.iinc i n, 3)) (hg : sGet i lv = some (.int x)) (hn : i < M.2.2.1) (hv : x + Int32.ofInt n = v) (k : sV g M R Z (pc + 3) (sSet i (.int v) lv) st hp ce sl) : sV g M R Z (pc) lv (st) hp ce sl := sv_iinc hd hg hv hn k
theorem sw_iaload {a kd n k : Nat} {cA : ClassId} {f : Nat → Value} {i : Int32} {v : Value} (hd : decode M.2.1 pc = .ok (.iaload, 1)) (ht : g.2.2.1[kd]? = some (cA, .int)) (ha : Nat.ble (a + 1) hn = true) (he : hf a = .inl (kd, n, f)) (hk : i.toNatClampNeg = k) (h0 : ¬ i < 0) (hkn : Nat.ble (k + 1) n = true) (hv : f k = v) (kk : sV g M R Z (pc + 1) lv (v :: st) (hn, hf) ce sl) : sV g M R Z (pc) lv (.int i :: .ref a :: st) (hn, hf) ce sl := sv_iaload hd ht (lt_t ha) he (vp_in_k hk h0 hkn) (by rw [hk]; exact hv) kk
theorem sw_baload {a kd n k : Nat} {cA : ClassId} {f : Nat → Value} {i : Int32} {v : Value} (hd : decode M.2.1 pc = .ok (.baload, 1)) (ht : g.2.2.1[kd]? = some (cA, .byte)) (ha : Nat.ble (a + 1) hn = true) (he : hf a = .inl (kd, n, f)) (hk : i.toNatClampNeg = k) (h0 : ¬ i < 0) (hkn : Nat.ble (k + 1) n = true) (hv : f k = v) (kk : sV g M R Z (pc + 1) lv (v :: st) (hn, hf) ce sl) : sV g M R Z (pc) lv (.int i :: .ref a :: st) (hn, hf) ce sl := sv_baload hd ht (lt_t ha) he (vp_in_k hk h0 hkn) (by rw [hk]; exact hv) kk
theorem sw_zaload {a kd n k : Nat} {cA : ClassId} {f : Nat → Value} {i : Int32} {v : Value} (hd : decode M.2.1 pc = .ok (.baload, 1)) (ht : g.2.2.1[kd]? = some (cA, .boolean)) (ha : Nat.ble (a + 1) hn = true) (he : hf a = .inl (kd, n, f)) (hk : i.toNatClampNeg = k) (h0 : ¬ i < 0) (hkn : Nat.ble (k + 1) n = true) (hv : f k = v) (kk : sV g M R Z (pc + 1) lv (v :: st) (hn, hf) ce sl) : sV g M R Z (pc) lv (.int i :: .ref a :: st) (hn, hf) ce sl := sv_zaload hd ht (lt_t ha) he (vp_in_k hk h0 hkn) (by rw [hk]; exact hv) kk
theorem sw_laload {a kd n k : Nat} {cA : ClassId} {f : Nat → Value} {i : Int32} {v : Value} (hd : decode M.2.1 pc = .ok (.laload, 1)) (ht : g.2.2.1[kd]? = some (cA, .long)) (ha : Nat.ble (a + 1) hn = true) (he : hf a = .inl (kd, n, f)) (hk : i.toNatClampNeg = k) (h0 : ¬ i < 0) (hkn : Nat.ble (k + 1) n = true) (hv : f k = v) (kk : sV g M R Z (pc + 1) lv (v :: st) (hn, hf) ce sl) : sV g M R Z (pc) lv (.int i :: .ref a :: st) (hn, hf) ce sl := sv_laload hd ht (lt_t ha) he (vp_in_k hk h0 hkn) (by rw [hk]; exact hv) kk
theorem sw_aaload {a kd n k : Nat} {cA : ClassId} {C0 : String} {f : Nat → Value} {i : Int32} {v : Value} (hd : decode M.2.1 pc = .ok (.aaload, 1)) (ht : g.2.2.1[kd]? = some (cA, .object C0)) (ha : Nat.ble (a + 1) hn = true) (he : hf a = .inl (kd, n, f)) (hk : i.toNatClampNeg = k) (h0 : ¬ i < 0) (hkn : Nat.ble (k + 1) n = true) (hv : f k = v) (kk : sV g M R Z (pc + 1) lv (v :: st) (hn, hf) ce sl) : sV g M R Z (pc) lv (.int i :: .ref a :: st) (hn, hf) ce sl := sv_aaload hd ht (lt_t ha) he (vp_in_k hk h0 hkn) (by rw [hk]; exact hv) kk
theorem sw_iastore {a kd n k : Nat} {cA : ClassId} {f : Nat → Value} {i : Int32} {x : Int32} {v : Value} (hd : decode M.2.1 pc = .ok (.iastore, 1)) (ht : g.2.2.1[kd]? = some (cA, .int)) (ha : Nat.ble (a + 1) hn = true) (he : hf a = .inl (kd, n, f)) (hk : i.toNatClampNeg = k) (h0 : ¬ i < 0) (hkn : Nat.ble (k + 1) n = true) (hv : .int x = v) (kk : sV g M R Z (pc + 1) lv (st) (hn, sUp hf a (.inl (kd, n, updV f k v))) ce sl) : sV g M R Z (pc) lv (.int x :: .int i :: .ref a :: st) (hn, hf) ce sl := sv_iastore hd ht (lt_t ha) he (vp_in_k hk h0 hkn) (by rw [hk, hv]; exact kk)
theorem sw_bastore {a kd n k : Nat} {cA : ClassId} {f : Nat → Value} {i : Int32} {x : Int32} {v : Value} (hd : decode M.2.1 pc = .ok (.bastore, 1)) (ht : g.2.2.1[kd]? = some (cA, .byte)) (ha : Nat.ble (a + 1) hn = true) (he : hf a = .inl (kd, n, f)) (hk : i.toNatClampNeg = k) (h0 : ¬ i < 0) (hkn : Nat.ble (k + 1) n = true) (hv : .int (vp_nar .byte x) = v) (kk : sV g M R Z (pc + 1) lv (st) (hn, sUp hf a (.inl (kd, n, updV f k v))) ce sl) : sV g M R Z (pc) lv (.int x :: .int i :: .ref a :: st) (hn, hf) ce sl := sv_bastore hd ht (lt_t ha) he (vp_in_k hk h0 hkn) (by rw [hk, hv]; exact kk)
theorem sw_zastore {a kd n k : Nat} {cA : ClassId} {f : Nat → Value} {i : Int32} {x : Int32} {v : Value} (hd : decode M.2.1 pc = .ok (.bastore, 1)) (ht : g.2.2.1[kd]? = some (cA, .boolean)) (ha : Nat.ble (a + 1) hn = true) (he : hf a = .inl (kd, n, f)) (hk : i.toNatClampNeg = k) (h0 : ¬ i < 0) (hkn : Nat.ble (k + 1) n = true) (hv : .int (vp_nar .boolean x) = v) (kk : sV g M R Z (pc + 1) lv (st) (hn, sUp hf a (.inl (kd, n, updV f k v))) ce sl) : sV g M R Z (pc) lv (.int x :: .int i :: .ref a :: st) (hn, hf) ce sl := sv_zastore hd ht (lt_t ha) he (vp_in_k hk h0 hkn) (by rw [hk, hv]; exact kk)
theorem sw_lastore {a kd n k : Nat} {cA : ClassId} {f : Nat → Value} {i : Int32} {x : Int64} {v : Value} (hd : decode M.2.1 pc = .ok (.lastore, 1)) (ht : g.2.2.1[kd]? = some (cA, .long)) (ha : Nat.ble (a + 1) hn = true) (he : hf a = .inl (kd, n, f)) (hk : i.toNatClampNeg = k) (h0 : ¬ i < 0) (hkn : Nat.ble (k + 1) n = true) (hv : .long x = v) (kk : sV g M R Z (pc + 1) lv (st) (hn, sUp hf a (.inl (kd, n, updV f k v))) ce sl) : sV g M R Z (pc) lv (.long x :: .int i :: .ref a :: st) (hn, hf) ce sl := sv_lastore hd ht (lt_t ha) he (vp_in_k hk h0 hkn) (by rw [hk, hv]; exact kk)
theorem sw_aastore {a kd n k v ci : Nat} {T : vw_C} {ty : Nat → FieldType} {fs : List Value} {cA : ClassId} {f : Nat → Value} {i : Int32} (hd : decode M.2.1 pc = .ok (.aastore, 1)) (hC : sCl g ci T ty) (ht : g.2.2.1[kd]? = some (cA, .object T.1)) (ha : Nat.ble (a + 1) hn = true) (he : hf a = .inl (kd, n, f)) (hk : i.toNatClampNeg = k) (h0 : ¬ i < 0) (hkn : Nat.ble (k + 1) n = true) (hv : Nat.ble (v + 1) hn = true) (hev : hf v = .inr (ci, fs)) (kk : sV g M R Z (pc + 1) lv (st) (hn, sUp hf a (.inl (kd, n, updV f k (.ref v)))) ce sl) : sV g M R Z (pc) lv (.ref v :: .int i :: .ref a :: st) (hn, hf) ce sl := sv_aastore hd hC ht (lt_t ha) he (vp_in_k hk h0 hkn) (lt_t hv) hev (by rw [hk]; exact kk)
theorem sw_new {index ci a n1 ce1 sl1 : Nat} {T : vw_C} {ty : Nat → FieldType} {fs : List Value} (hd : decode M.2.1 pc = .ok (.new index, 3)) (hC : sCl g ci T ty) (hcl : Cond.classLink M.1.cls index T.1 ∈ sg_ws g) (hinst : Cond.instantiable T.1 T.2.2 ∈ sg_ws g) (hini : Cond.initialized T.1 ∈ sg_ws g) (hfs : ∀ b j, j < T.2.2 → defaultValue (ty j) = rv b (vp_V fs j)) (ha : hn = a) (hn1 : a + 1 = n1) (h1 : ce + 1 = ce1) (h2 : sl + T.2.2 = sl1) (hc1 : Nat.ble ce1 R.cells = true) (hs1 : Nat.ble sl1 R.slots = true)
    (kk : sV g M R Z (pc + 3) lv (.ref a :: st) (n1, sUp hf a (.inr (ci, fs))) ce1 sl1) : sV g M R Z (pc) lv (st) (hn, hf) ce sl := by
  subst ha; subst hn1; subst h1; subst h2
  exact sv_new hd hC hcl hinst hini hfs (le_t hc1) (le_t hs1) kk
theorem sw_newarray {kd a n1 N ce1 sl1 : Nat} {cA : ClassId} {atype : ArrayType} {x : Int32} {ty : FieldType} {v : Value} (hd : decode M.2.1 pc = .ok (.newarray atype, 2)) (hty : newarray.typeOf atype = ty) (hw : Cond.arrayClass ty ∈ sg_ws g) (ht : g.2.2.1[kd]? = some (cA, ty)) (hra : ∀ U : State, va_RA U cA ty → U.vm.findClass ("[" ++ ty.toString) = some cA) (hn0 : ¬ x < 0) (hN : x.toNatClampNeg = N) (hby : Nat.ble (N * componentBytes ty) 536870912 = true) (hv : ∀ b, defaultValue ty = rv b v) (ha : hn = a) (hn1 : a + 1 = n1) (h1 : ce + 1 = ce1) (h2 : sl + N = sl1) (hc1 : Nat.ble ce1 R.cells = true) (hs1 : Nat.ble sl1 R.slots = true)
    (kk : sV g M R Z (pc + 2) lv (.ref a :: st) (n1, sUp hf a (.inl (kd, N, fun _ => v))) ce1 sl1) : sV g M R Z (pc) lv (.int x :: st) (hn, hf) ce sl := by
  subst ha; subst hn1; subst h1; subst h2
  exact sv_newarray hd hty hw ht hra hn0 hN (le_t hby) hv (le_t hc1) (le_t hs1) kk
theorem sw_anewarray {index kd a n1 N ce1 sl1 : Nat} {cA : ClassId} {x : Int32} {C0 : String} (hd : decode M.2.1 pc = .ok (.anewarray index, 3)) (hcl : Cond.classLink M.1.cls index C0 ∈ sg_ws g) (ht : g.2.2.1[kd]? = some (cA, .object C0)) (hn0 : ¬ x < 0) (hN : x.toNatClampNeg = N) (hby : Nat.ble (N * 4) 536870912 = true) (ha : hn = a) (hn1 : a + 1 = n1) (h1 : ce + 1 = ce1) (h2 : sl + N = sl1) (hc1 : Nat.ble ce1 R.cells = true) (hs1 : Nat.ble sl1 R.slots = true)
    (kk : sV g M R Z (pc + 3) lv (.ref a :: st) (n1, sUp hf a (.inl (kd, N, fun _ => .null))) ce1 sl1) : sV g M R Z (pc) lv (.int x :: st) (hn, hf) ce sl := by
  subst ha; subst hn1; subst h1; subst h2
  exact sv_anewarray hd hcl ht hn0 hN (le_t hby) (le_t hc1) (le_t hs1) kk
theorem sw_sld {k x : Nat} {i v : Int32} (hd : decode M.2.1 pc = .ok (.iaload, 1)) (hk : i.toNatClampNeg = k) (h0 : ¬ i < 0) (hkn : Nat.ble (k + 1) (sg_L g) = true) (hv : sg_xs g k = v) (kk : sV g M R Z (pc + 1) lv (.int v :: st) hp ce sl) : sV g M R Z (pc) lv (.int i :: .retAddr x :: st) hp ce sl := sv_sld hd (vp_in_k hk h0 hkn) (by rw [hk, hv]; exact kk)
end SVK
theorem sI_Cond_int (U : State) (cA : ClassId) : va_RA U cA .int → U.vm.findClass ("[" ++ FieldType.int.toString) = some cA := id
theorem sI_Cond_long (U : State) (cA : ClassId) : va_RA U cA .long → U.vm.findClass ("[" ++ FieldType.long.toString) = some cA := id
theorem sI_Cond_byte (U : State) (cA : ClassId) : va_RA U cA .byte → U.vm.findClass ("[" ++ FieldType.byte.toString) = some cA := id
theorem sI_Cond_boolean (U : State) (cA : ClassId) : va_RA U cA .boolean → U.vm.findClass ("[" ++ FieldType.boolean.toString) = some cA := id
section SGm
variable (l : Launch) (D : va_G) (c : Nat → ClassId) (H0 : Heap) (sa : Nat × Nat × (Nat → Int32))
theorem tX0_init : sMt (gG l D c H0 sa) mX0_init 0 := ⟨wK_X0_init, wI_X0, by decide +kernel⟩
theorem tX0_goBy : sMt (gG l D c H0 sa) mX0_goBy 2 := ⟨wK_X0_goBy, wI_X0, by decide +kernel⟩
theorem tX0_firstUnlikeStep : sMt (gG l D c H0 sa) mX0_firstUnlikeStep 2 := ⟨wK_X0_firstUnlikeStep, wI_X0, by decide +kernel⟩
theorem tX0_prefers : sMt (gG l D c H0 sa) mX0_prefers 2 := ⟨wK_X0_prefers, wI_X0, by decide +kernel⟩
theorem tX0_compareAt : sMt (gG l D c H0 sa) mX0_compareAt 3 := ⟨wK_X0_compareAt, wI_X0, by decide +kernel⟩
theorem tX1_init : sMt (gG l D c H0 sa) mX1_init 1 := ⟨wK_X1_init, wI_X1, by decide +kernel⟩
theorem tX1_addPolicy : sMt (gG l D c H0 sa) mX1_addPolicy 1 := ⟨wK_X1_addPolicy, wI_X1, by decide +kernel⟩
theorem tX1_lets : sMt (gG l D c H0 sa) mX1_lets 4 := ⟨wK_X1_lets, wI_X1, by decide +kernel⟩
theorem tX1_goThrough : sMt (gG l D c H0 sa) mX1_goThrough 2 := ⟨wK_X1_goThrough, wI_X1, by decide +kernel⟩
theorem tX1_isSo : sMt (gG l D c H0 sa) mX1_isSo 2 := ⟨wK_X1_isSo, wI_X1, by decide +kernel⟩
theorem tX1_doActs : sMt (gG l D c H0 sa) mX1_doActs 4 := ⟨wK_X1_doActs, wI_X1, by decide +kernel⟩
theorem tX2_init : sMt (gG l D c H0 sa) mX2_init 1 := ⟨wK_X2_init, wI_X2, by decide +kernel⟩
theorem tX2_tieFor : sMt (gG l D c H0 sa) mX2_tieFor 2 := ⟨wK_X2_tieFor, wI_X2, by decide +kernel⟩
theorem tX2_partnerFor : sMt (gG l D c H0 sa) mX2_partnerFor 2 := ⟨wK_X2_partnerFor, wI_X2, by decide +kernel⟩
theorem tX2_travel : sMt (gG l D c H0 sa) mX2_travel 2 := ⟨wK_X2_travel, wI_X2, by decide +kernel⟩
theorem tX2_send : sMt (gG l D c H0 sa) mX2_send 2 := ⟨wK_X2_send, wI_X2, by decide +kernel⟩
theorem tX2_addDemand : sMt (gG l D c H0 sa) mX2_addDemand 3 := ⟨wK_X2_addDemand, wI_X2, by decide +kernel⟩
theorem tX2_unitsOver : sMt (gG l D c H0 sa) mX2_unitsOver 2 := ⟨wK_X2_unitsOver, wI_X2, by decide +kernel⟩
theorem tX2_unitsThat : sMt (gG l D c H0 sa) mX2_unitsThat 1 := ⟨wK_X2_unitsThat, wI_X2, by decide +kernel⟩
theorem tX2_leastTable : sMt (gG l D c H0 sa) mX2_leastTable 1 := ⟨wK_X2_leastTable, wI_X2, by decide +kernel⟩
theorem tX2_leastBelow : sMt (gG l D c H0 sa) mX2_leastBelow 3 := ⟨wK_X2_leastBelow, wI_X2, by decide +kernel⟩
theorem tX2_isSplit : sMt (gG l D c H0 sa) mX2_isSplit 3 := ⟨wK_X2_isSplit, wI_X2, by decide +kernel⟩
theorem tX2_aimBit : sMt (gG l D c H0 sa) mX2_aimBit 1 := ⟨wK_X2_aimBit, wI_X2, by decide +kernel⟩
theorem tX2_unlikeAddresses : sMt (gG l D c H0 sa) mX2_unlikeAddresses 2 := ⟨wK_X2_unlikeAddresses, wI_X2, by decide +kernel⟩
theorem tX2_layBorders : sMt (gG l D c H0 sa) mX2_layBorders 0 := ⟨wK_X2_layBorders, wI_X2, by decide +kernel⟩
theorem tX2_insertBorder : sMt (gG l D c H0 sa) mX2_insertBorder 2 := ⟨wK_X2_insertBorder, wI_X2, by decide +kernel⟩
theorem tX3_init : sMt (gG l D c H0 sa) mX3_init 0 := ⟨wK_X3_init, wI_X3, by decide +kernel⟩
theorem tX3_read : sMt (gG l D c H0 sa) mX3_read 2 := ⟨wK_X3_read, wI_X3, by decide +kernel⟩
theorem tX3_forget : sMt (gG l D c H0 sa) mX3_forget 0 := ⟨wK_X3_forget, wI_X3, by decide +kernel⟩
theorem tX3_readParts : sMt (gG l D c H0 sa) mX3_readParts 1 := ⟨wK_X3_readParts, wI_X3, by decide +kernel⟩
theorem tX3_note : sMt (gG l D c H0 sa) mX3_note 2 := ⟨wK_X3_note, wI_X3, by decide +kernel⟩
theorem tX3_pairAt : sMt (gG l D c H0 sa) mX3_pairAt 1 := ⟨wK_X3_pairAt, wI_X3, by decide +kernel⟩
theorem tX3_fourAt : sMt (gG l D c H0 sa) mX3_fourAt 1 := ⟨wK_X3_fourAt, wI_X3, by decide +kernel⟩
theorem tX3_readPrefixes : sMt (gG l D c H0 sa) mX3_readPrefixes 3 := ⟨wK_X3_readPrefixes, wI_X3, by decide +kernel⟩
theorem tX3_readAttributes : sMt (gG l D c H0 sa) mX3_readAttributes 2 := ⟨wK_X3_readAttributes, wI_X3, by decide +kernel⟩
theorem tX3_readAttribute : sMt (gG l D c H0 sa) mX3_readAttribute 3 := ⟨wK_X3_readAttribute, wI_X3, by decide +kernel⟩
theorem tX3_carry : sMt (gG l D c H0 sa) mX3_carry 2 := ⟨wK_X3_carry, wI_X3, by decide +kernel⟩
theorem tX3_readOrigin : sMt (gG l D c H0 sa) mX3_readOrigin 2 := ⟨wK_X3_readOrigin, wI_X3, by decide +kernel⟩
theorem tX3_readCost : sMt (gG l D c H0 sa) mX3_readCost 2 := ⟨wK_X3_readCost, wI_X3, by decide +kernel⟩
theorem tX3_readMarks : sMt (gG l D c H0 sa) mX3_readMarks 2 := ⟨wK_X3_readMarks, wI_X3, by decide +kernel⟩
theorem tX3_keepMark : sMt (gG l D c H0 sa) mX3_keepMark 1 := ⟨wK_X3_keepMark, wI_X3, by decide +kernel⟩
theorem tX3_readWay : sMt (gG l D c H0 sa) mX3_readWay 2 := ⟨wK_X3_readWay, wI_X3, by decide +kernel⟩
theorem tX3_sortWithoutSign : sMt (gG l D c H0 sa) mX3_sortWithoutSign 3 := ⟨wK_X3_sortWithoutSign, wI_X3, by decide +kernel⟩
theorem tX3_told : sMt (gG l D c H0 sa) mX3_told 1 := ⟨wK_X3_told, wI_X3, by decide +kernel⟩
theorem tX3_placeTold : sMt (gG l D c H0 sa) mX3_placeTold 0 := ⟨wK_X3_placeTold, wI_X3, by decide +kernel⟩
theorem tX3_toldInAll : sMt (gG l D c H0 sa) mX3_toldInAll 1 := ⟨wK_X3_toldInAll, wI_X3, by decide +kernel⟩
theorem tX3_toldOfRow : sMt (gG l D c H0 sa) mX3_toldOfRow 1 := ⟨wK_X3_toldOfRow, wI_X3, by decide +kernel⟩
theorem tX3_putDown : sMt (gG l D c H0 sa) mX3_putDown 3 := ⟨wK_X3_putDown, wI_X3, by decide +kernel⟩
theorem tX3_putAttributes : sMt (gG l D c H0 sa) mX3_putAttributes 1 := ⟨wK_X3_putAttributes, wI_X3, by decide +kernel⟩
theorem tX3_putHead : sMt (gG l D c H0 sa) mX3_putHead 3 := ⟨wK_X3_putHead, wI_X3, by decide +kernel⟩
theorem tX3_putPrefix : sMt (gG l D c H0 sa) mX3_putPrefix 2 := ⟨wK_X3_putPrefix, wI_X3, by decide +kernel⟩
theorem tX3_putNumber : sMt (gG l D c H0 sa) mX3_putNumber 2 := ⟨wK_X3_putNumber, wI_X3, by decide +kernel⟩
theorem tX4_init : sMt (gG l D c H0 sa) mX4_init 0 := ⟨wK_X4_init, wI_X4, by decide +kernel⟩
theorem tX4_isWish : sMt (gG l D c H0 sa) mX4_isWish 2 := ⟨wK_X4_isWish, wI_X4, by decide +kernel⟩
theorem tX4_find : sMt (gG l D c H0 sa) mX4_find 3 := ⟨wK_X4_find, wI_X4, by decide +kernel⟩
theorem tX4_addWish : sMt (gG l D c H0 sa) mX4_addWish 2 := ⟨wK_X4_addWish, wI_X4, by decide +kernel⟩
theorem tX4_forget : sMt (gG l D c H0 sa) mX4_forget 0 := ⟨wK_X4_forget, wI_X4, by decide +kernel⟩
theorem tX4_prepare : sMt (gG l D c H0 sa) mX4_prepare 0 := ⟨wK_X4_prepare, wI_X4, by decide +kernel⟩
theorem tX4_need : sMt (gG l D c H0 sa) mX4_need 1 := ⟨wK_X4_need, wI_X4, by decide +kernel⟩
theorem tX4_actOf : sMt (gG l D c H0 sa) mX4_actOf 1 := ⟨wK_X4_actOf, wI_X4, by decide +kernel⟩
theorem tX4_isRest : sMt (gG l D c H0 sa) mX4_isRest 0 := ⟨wK_X4_isRest, wI_X4, by decide +kernel⟩
theorem tX4_unfold : sMt (gG l D c H0 sa) mX4_unfold 1 := ⟨wK_X4_unfold, wI_X4, by decide +kernel⟩
theorem tX4_figure : sMt (gG l D c H0 sa) mX4_figure 2 := ⟨wK_X4_figure, wI_X4, by decide +kernel⟩
theorem tX4_countUp : sMt (gG l D c H0 sa) mX4_countUp 0 := ⟨wK_X4_countUp, wI_X4, by decide +kernel⟩
theorem tX4_findRests : sMt (gG l D c H0 sa) mX4_findRests 0 := ⟨wK_X4_findRests, wI_X4, by decide +kernel⟩
theorem tX4_keepRest : sMt (gG l D c H0 sa) mX4_keepRest 1 := ⟨wK_X4_keepRest, wI_X4, by decide +kernel⟩
theorem tX4_wayInRest : sMt (gG l D c H0 sa) mX4_wayInRest 2 := ⟨wK_X4_wayInRest, wI_X4, by decide +kernel⟩
theorem tX4_explore : sMt (gG l D c H0 sa) mX4_explore 0 := ⟨wK_X4_explore, wI_X4, by decide +kernel⟩
theorem tX4_makeRoom : sMt (gG l D c H0 sa) mX4_makeRoom 0 := ⟨wK_X4_makeRoom, wI_X4, by decide +kernel⟩
theorem tX4_spread : sMt (gG l D c H0 sa) mX4_spread 0 := ⟨wK_X4_spread, wI_X4, by decide +kernel⟩
theorem tX4_addNeighbours : sMt (gG l D c H0 sa) mX4_addNeighbours 2 := ⟨wK_X4_addNeighbours, wI_X4, by decide +kernel⟩
theorem tX4_leadBack : sMt (gG l D c H0 sa) mX4_leadBack 0 := ⟨wK_X4_leadBack, wI_X4, by decide +kernel⟩
theorem tX4_addSources : sMt (gG l D c H0 sa) mX4_addSources 2 := ⟨wK_X4_addSources, wI_X4, by decide +kernel⟩
theorem tX5_init : sMt (gG l D c H0 sa) mX5_init 6 := ⟨wK_X5_init, wI_X5, by decide +kernel⟩
theorem tX5_tells : sMt (gG l D c H0 sa) mX5_tells 3 := ⟨wK_X5_tells, wI_X5, by decide +kernel⟩
theorem tX6_init : sMt (gG l D c H0 sa) mX6_init 0 := ⟨wK_X6_init, wI_X6, by decide +kernel⟩
theorem tX6_read : sMt (gG l D c H0 sa) mX6_read 3 := ⟨wK_X6_read, wI_X6, by decide +kernel⟩
theorem tX6_result : sMt (gG l D c H0 sa) mX6_result 0 := ⟨wK_X6_result, wI_X6, by decide +kernel⟩
theorem tX6_split : sMt (gG l D c H0 sa) mX6_split 2 := ⟨wK_X6_split, wI_X6, by decide +kernel⟩
theorem tX6_isLetter : sMt (gG l D c H0 sa) mX6_isLetter 1 := ⟨wK_X6_isLetter, wI_X6, by decide +kernel⟩
theorem tX6_isFigure : sMt (gG l D c H0 sa) mX6_isFigure 1 := ⟨wK_X6_isFigure, wI_X6, by decide +kernel⟩
theorem tX6_putNumber : sMt (gG l D c H0 sa) mX6_putNumber 3 := ⟨wK_X6_putNumber, wI_X6, by decide +kernel⟩
theorem tX6_putToken : sMt (gG l D c H0 sa) mX6_putToken 3 := ⟨wK_X6_putToken, wI_X6, by decide +kernel⟩
theorem tX6_wordAt : sMt (gG l D c H0 sa) mX6_wordAt 3 := ⟨wK_X6_wordAt, wI_X6, by decide +kernel⟩
theorem tX6_fail : sMt (gG l D c H0 sa) mX6_fail 1 := ⟨wK_X6_fail, wI_X6, by decide +kernel⟩
theorem tX6_step : sMt (gG l D c H0 sa) mX6_step 0 := ⟨wK_X6_step, wI_X6, by decide +kernel⟩
theorem tX6_take : sMt (gG l D c H0 sa) mX6_take 1 := ⟨wK_X6_take, wI_X6, by decide +kernel⟩
theorem tX6_expect : sMt (gG l D c H0 sa) mX6_expect 1 := ⟨wK_X6_expect, wI_X6, by decide +kernel⟩
theorem tX6_number : sMt (gG l D c H0 sa) mX6_number 2 := ⟨wK_X6_number, wI_X6, by decide +kernel⟩
theorem tX6_readRow : sMt (gG l D c H0 sa) mX6_readRow 0 := ⟨wK_X6_readRow, wI_X6, by decide +kernel⟩
theorem tX6_isAct : sMt (gG l D c H0 sa) mX6_isAct 1 := ⟨wK_X6_isAct, wI_X6, by decide +kernel⟩
theorem tX6_readAct : sMt (gG l D c H0 sa) mX6_readAct 0 := ⟨wK_X6_readAct, wI_X6, by decide +kernel⟩
theorem tX6_readTest : sMt (gG l D c H0 sa) mX6_readTest 0 := ⟨wK_X6_readTest, wI_X6, by decide +kernel⟩
theorem tX6_isTest : sMt (gG l D c H0 sa) mX6_isTest 1 := ⟨wK_X6_isTest, wI_X6, by decide +kernel⟩
theorem tX6_oneOf : sMt (gG l D c H0 sa) mX6_oneOf 2 := ⟨wK_X6_oneOf, wI_X6, by decide +kernel⟩
theorem tX6_verdictOf : sMt (gG l D c H0 sa) mX6_verdictOf 1 := ⟨wK_X6_verdictOf, wI_X6, by decide +kernel⟩
theorem tX6_relation : sMt (gG l D c H0 sa) mX6_relation 0 := ⟨wK_X6_relation, wI_X6, by decide +kernel⟩
theorem tX6_readHeldIn : sMt (gG l D c H0 sa) mX6_readHeldIn 1 := ⟨wK_X6_readHeldIn, wI_X6, by decide +kernel⟩
theorem tX6_readWay : sMt (gG l D c H0 sa) mX6_readWay 1 := ⟨wK_X6_readWay, wI_X6, by decide +kernel⟩
theorem tX6_readBranches : sMt (gG l D c H0 sa) mX6_readBranches 1 := ⟨wK_X6_readBranches, wI_X6, by decide +kernel⟩
theorem tX6_beginsPiece : sMt (gG l D c H0 sa) mX6_beginsPiece 1 := ⟨wK_X6_beginsPiece, wI_X6, by decide +kernel⟩
theorem tX6_readGroup : sMt (gG l D c H0 sa) mX6_readGroup 1 := ⟨wK_X6_readGroup, wI_X6, by decide +kernel⟩
theorem tX6_readPlace : sMt (gG l D c H0 sa) mX6_readPlace 0 := ⟨wK_X6_readPlace, wI_X6, by decide +kernel⟩
theorem tX6_readRepeat : sMt (gG l D c H0 sa) mX6_readRepeat 0 := ⟨wK_X6_readRepeat, wI_X6, by decide +kernel⟩
theorem tX6_join : sMt (gG l D c H0 sa) mX6_join 2 := ⟨wK_X6_join, wI_X6, by decide +kernel⟩
theorem tX6_putTest : sMt (gG l D c H0 sa) mX6_putTest 5 := ⟨wK_X6_putTest, wI_X6, by decide +kernel⟩
theorem tX6_put : sMt (gG l D c H0 sa) mX6_put 1 := ⟨wK_X6_put, wI_X6, by decide +kernel⟩
theorem tX7_init : sMt (gG l D c H0 sa) mX7_init 0 := ⟨wK_X7_init, wI_X7, by decide +kernel⟩
theorem tX7_begin : sMt (gG l D c H0 sa) mX7_begin 2 := ⟨wK_X7_begin, wI_X7, by decide +kernel⟩
theorem tX7_become : sMt (gG l D c H0 sa) mX7_become 1 := ⟨wK_X7_become, wI_X7, by decide +kernel⟩
theorem tX7_vanish : sMt (gG l D c H0 sa) mX7_vanish 0 := ⟨wK_X7_vanish, wI_X7, by decide +kernel⟩
theorem tX7_isAlike : sMt (gG l D c H0 sa) mX7_isAlike 1 := ⟨wK_X7_isAlike, wI_X7, by decide +kernel⟩
theorem tX7_passes : sMt (gG l D c H0 sa) mX7_passes 1 := ⟨wK_X7_passes, wI_X7, by decide +kernel⟩
theorem tX7_sharesFirst : sMt (gG l D c H0 sa) mX7_sharesFirst 1 := ⟨wK_X7_sharesFirst, wI_X7, by decide +kernel⟩
theorem tX7_putInFront : sMt (gG l D c H0 sa) mX7_putInFront 2 := ⟨wK_X7_putInFront, wI_X7, by decide +kernel⟩
theorem tX7_hasMark : sMt (gG l D c H0 sa) mX7_hasMark 1 := ⟨wK_X7_hasMark, wI_X7, by decide +kernel⟩
theorem tX7_addMark : sMt (gG l D c H0 sa) mX7_addMark 1 := ⟨wK_X7_addMark, wI_X7, by decide +kernel⟩
theorem tX7_dropMark : sMt (gG l D c H0 sa) mX7_dropMark 1 := ⟨wK_X7_dropMark, wI_X7, by decide +kernel⟩
theorem tX8_init : sMt (gG l D c H0 sa) mX8_init 2 := ⟨wK_X8_init, wI_X8, by decide +kernel⟩
theorem tX8_slotOf : sMt (gG l D c H0 sa) mX8_slotOf 4 := ⟨wK_X8_slotOf, wI_X8, by decide +kernel⟩
theorem tX8_schedule : sMt (gG l D c H0 sa) mX8_schedule 2 := ⟨wK_X8_schedule, wI_X8, by decide +kernel⟩
theorem tX8_cancel : sMt (gG l D c H0 sa) mX8_cancel 1 := ⟨wK_X8_cancel, wI_X8, by decide +kernel⟩
theorem tX8_doNext : sMt (gG l D c H0 sa) mX8_doNext 1 := ⟨wK_X8_doNext, wI_X8, by decide +kernel⟩
theorem tX8_passTo : sMt (gG l D c H0 sa) mX8_passTo 1 := ⟨wK_X8_passTo, wI_X8, by decide +kernel⟩
theorem tX8_handOver : sMt (gG l D c H0 sa) mX8_handOver 3 := ⟨wK_X8_handOver, wI_X8, by decide +kernel⟩
theorem tX8_takeIn : sMt (gG l D c H0 sa) mX8_takeIn 3 := ⟨wK_X8_takeIn, wI_X8, by decide +kernel⟩
theorem tX8_silence : sMt (gG l D c H0 sa) mX8_silence 1 := ⟨wK_X8_silence, wI_X8, by decide +kernel⟩
theorem tX8_tellAllAnew : sMt (gG l D c H0 sa) mX8_tellAllAnew 0 := ⟨wK_X8_tellAllAnew, wI_X8, by decide +kernel⟩
theorem tX8_lookAtAll : sMt (gG l D c H0 sa) mX8_lookAtAll 1 := ⟨wK_X8_lookAtAll, wI_X8, by decide +kernel⟩
theorem tX8_sayAll : sMt (gG l D c H0 sa) mX8_sayAll 2 := ⟨wK_X8_sayAll, wI_X8, by decide +kernel⟩
theorem tX8_look : sMt (gG l D c H0 sa) mX8_look 2 := ⟨wK_X8_look, wI_X8, by decide +kernel⟩
theorem tX8_gather : sMt (gG l D c H0 sa) mX8_gather 2 := ⟨wK_X8_gather, wI_X8, by decide +kernel⟩
theorem tX8_pickPlain : sMt (gG l D c H0 sa) mX8_pickPlain 1 := ⟨wK_X8_pickPlain, wI_X8, by decide +kernel⟩
theorem tX8_pickGrouped : sMt (gG l D c H0 sa) mX8_pickGrouped 1 := ⟨wK_X8_pickGrouped, wI_X8, by decide +kernel⟩
theorem tX8_lastStanding : sMt (gG l D c H0 sa) mX8_lastStanding 2 := ⟨wK_X8_lastStanding, wI_X8, by decide +kernel⟩
theorem tX8_isFirstOfGroup : sMt (gG l D c H0 sa) mX8_isFirstOfGroup 1 := ⟨wK_X8_isFirstOfGroup, wI_X8, by decide +kernel⟩
theorem tX8_bestOfGroup : sMt (gG l D c H0 sa) mX8_bestOfGroup 2 := ⟨wK_X8_bestOfGroup, wI_X8, by decide +kernel⟩
theorem tX8_insertWinner : sMt (gG l D c H0 sa) mX8_insertWinner 2 := ⟨wK_X8_insertWinner, wI_X8, by decide +kernel⟩
theorem tX8_groupOrder : sMt (gG l D c H0 sa) mX8_groupOrder 1 := ⟨wK_X8_groupOrder, wI_X8, by decide +kernel⟩
theorem tX8_say : sMt (gG l D c H0 sa) mX8_say 3 := ⟨wK_X8_say, wI_X8, by decide +kernel⟩
theorem tX8_compose : sMt (gG l D c H0 sa) mX8_compose 4 := ⟨wK_X8_compose, wI_X8, by decide +kernel⟩
theorem tX8_reason : sMt (gG l D c H0 sa) mX8_reason 3 := ⟨wK_X8_reason, wI_X8, by decide +kernel⟩
theorem tX8_candidateOver : sMt (gG l D c H0 sa) mX8_candidateOver 1 := ⟨wK_X8_candidateOver, wI_X8, by decide +kernel⟩
theorem tX8_threeInRing : sMt (gG l D c H0 sa) mX8_threeInRing 3 := ⟨wK_X8_threeInRing, wI_X8, by decide +kernel⟩
theorem tX9_init : sMt (gG l D c H0 sa) mX9_init 3 := ⟨wK_X9_init, wI_X9, by decide +kernel⟩
theorem tX9_placeOf : sMt (gG l D c H0 sa) mX9_placeOf 2 := ⟨wK_X9_placeOf, wI_X9, by decide +kernel⟩
theorem tX9_end : sMt (gG l D c H0 sa) mX9_end 1 := ⟨wK_X9_end, wI_X9, by decide +kernel⟩
theorem tX9_sideOf : sMt (gG l D c H0 sa) mX9_sideOf 1 := ⟨wK_X9_sideOf, wI_X9, by decide +kernel⟩
theorem tX9_partnerRole : sMt (gG l D c H0 sa) mX9_partnerRole 1 := ⟨wK_X9_partnerRole, wI_X9, by decide +kernel⟩
theorem tX10_init : sMt (gG l D c H0 sa) mX10_init 0 := ⟨wK_X10_init, wI_X10, by decide +kernel⟩
theorem tX10_maskOf : sMt (gG l D c H0 sa) mX10_maskOf 1 := ⟨wK_X10_maskOf, wI_X10, by decide +kernel⟩
theorem tX10_addPrefix : sMt (gG l D c H0 sa) mX10_addPrefix 2 := ⟨wK_X10_addPrefix, wI_X10, by decide +kernel⟩
theorem tX10_findPrefix : sMt (gG l D c H0 sa) mX10_findPrefix 2 := ⟨wK_X10_findPrefix, wI_X10, by decide +kernel⟩
theorem tX10_addDomain : sMt (gG l D c H0 sa) mX10_addDomain 0 := ⟨wK_X10_addDomain, wI_X10, by decide +kernel⟩
theorem tX10_addTie : sMt (gG l D c H0 sa) mX10_addTie 3 := ⟨wK_X10_addTie, wI_X10, by decide +kernel⟩
theorem tX10_tieBetween : sMt (gG l D c H0 sa) mX10_tieBetween 2 := ⟨wK_X10_tieBetween, wI_X10, by decide +kernel⟩
theorem tX10_coneOf : sMt (gG l D c H0 sa) mX10_coneOf 1 := ⟨wK_X10_coneOf, wI_X10, by decide +kernel⟩
theorem tX10_findRing : sMt (gG l D c H0 sa) mX10_findRing 0 := ⟨wK_X10_findRing, wI_X10, by decide +kernel⟩
theorem tX10_shortestRing : sMt (gG l D c H0 sa) mX10_shortestRing 1 := ⟨wK_X10_shortestRing, wI_X10, by decide +kernel⟩
theorem tX10_fillRing : sMt (gG l D c H0 sa) mX10_fillRing 2 := ⟨wK_X10_fillRing, wI_X10, by decide +kernel⟩
theorem tX10_leastCustomer : sMt (gG l D c H0 sa) mX10_leastCustomer 2 := ⟨wK_X10_leastCustomer, wI_X10, by decide +kernel⟩
theorem tX10_firstWrongStep : sMt (gG l D c H0 sa) mX10_firstWrongStep 2 := ⟨wK_X10_firstWrongStep, wI_X10, by decide +kernel⟩
theorem tX10_addRight : sMt (gG l D c H0 sa) mX10_addRight 6 := ⟨wK_X10_addRight, wI_X10, by decide +kernel⟩
theorem tX10_verdictOn : sMt (gG l D c H0 sa) mX10_verdictOn 4 := ⟨wK_X10_verdictOn, wI_X10, by decide +kernel⟩
theorem tX11_init : sMt (gG l D c H0 sa) mX11_init 0 := ⟨wK_X11_init, wI_X11, by decide +kernel⟩
theorem tX11_feed : sMt (gG l D c H0 sa) mX11_feed 5 := ⟨wK_X11_feed, wI_X11, by decide +kernel⟩
theorem tX11_feedNumber : sMt (gG l D c H0 sa) mX11_feedNumber 1 := ⟨wK_X11_feedNumber, wI_X11, by decide +kernel⟩
theorem tX11_cut : sMt (gG l D c H0 sa) mX11_cut 1 := ⟨wK_X11_cut, wI_X11, by decide +kernel⟩
theorem tX11_prefix : sMt (gG l D c H0 sa) mX11_prefix 2 := ⟨wK_X11_prefix, wI_X11, by decide +kernel⟩
theorem tX11_domain : sMt (gG l D c H0 sa) mX11_domain 0 := ⟨wK_X11_domain, wI_X11, by decide +kernel⟩
theorem tX11_tie : sMt (gG l D c H0 sa) mX11_tie 3 := ⟨wK_X11_tie, wI_X11, by decide +kernel⟩
theorem tX11_pace : sMt (gG l D c H0 sa) mX11_pace 3 := ⟨wK_X11_pace, wI_X11, by decide +kernel⟩
theorem tX11_raise : sMt (gG l D c H0 sa) mX11_raise 2 := ⟨wK_X11_raise, wI_X11, by decide +kernel⟩
theorem tX11_cone : sMt (gG l D c H0 sa) mX11_cone 2 := ⟨wK_X11_cone, wI_X11, by decide +kernel⟩
theorem tX11_ring : sMt (gG l D c H0 sa) mX11_ring 1 := ⟨wK_X11_ring, wI_X11, by decide +kernel⟩
theorem tX11_walk : sMt (gG l D c H0 sa) mX11_walk 1 := ⟨wK_X11_walk, wI_X11, by decide +kernel⟩
theorem tX11_letWay : sMt (gG l D c H0 sa) mX11_letWay 0 := ⟨wK_X11_letWay, wI_X11, by decide +kernel⟩
theorem tX11_today : sMt (gG l D c H0 sa) mX11_today 1 := ⟨wK_X11_today, wI_X11, by decide +kernel⟩
theorem tX11_right : sMt (gG l D c H0 sa) mX11_right 6 := ⟨wK_X11_right, wI_X11, by decide +kernel⟩
theorem tX11_strike : sMt (gG l D c H0 sa) mX11_strike 2 := ⟨wK_X11_strike, wI_X11, by decide +kernel⟩
theorem tX11_verdict : sMt (gG l D c H0 sa) mX11_verdict 4 := ⟨wK_X11_verdict, wI_X11, by decide +kernel⟩
theorem tX11_policy : sMt (gG l D c H0 sa) mX11_policy 0 := ⟨wK_X11_policy, wI_X11, by decide +kernel⟩
theorem tX11_fault : sMt (gG l D c H0 sa) mX11_fault 0 := ⟨wK_X11_fault, wI_X11, by decide +kernel⟩
theorem tX11_route : sMt (gG l D c H0 sa) mX11_route 4 := ⟨wK_X11_route, wI_X11, by decide +kernel⟩
theorem tX11_judge : sMt (gG l D c H0 sa) mX11_judge 3 := ⟨wK_X11_judge, wI_X11, by decide +kernel⟩
theorem tX11_hand : sMt (gG l D c H0 sa) mX11_hand 1 := ⟨wK_X11_hand, wI_X11, by decide +kernel⟩
theorem tX11_rowInHand : sMt (gG l D c H0 sa) mX11_rowInHand 1 := ⟨wK_X11_rowInHand, wI_X11, by decide +kernel⟩
theorem tX11_use : sMt (gG l D c H0 sa) mX11_use 4 := ⟨wK_X11_use, wI_X11, by decide +kernel⟩
theorem tX11_rule : sMt (gG l D c H0 sa) mX11_rule 3 := ⟨wK_X11_rule, wI_X11, by decide +kernel⟩
theorem tX11_isRule : sMt (gG l D c H0 sa) mX11_isRule 1 := ⟨wK_X11_isRule, wI_X11, by decide +kernel⟩
theorem tX11_announce : sMt (gG l D c H0 sa) mX11_announce 3 := ⟨wK_X11_announce, wI_X11, by decide +kernel⟩
theorem tX11_withdraw : sMt (gG l D c H0 sa) mX11_withdraw 2 := ⟨wK_X11_withdraw, wI_X11, by decide +kernel⟩
theorem tX11_go : sMt (gG l D c H0 sa) mX11_go 1 := ⟨wK_X11_go, wI_X11, by decide +kernel⟩
theorem tX11_until : sMt (gG l D c H0 sa) mX11_until 1 := ⟨wK_X11_until, wI_X11, by decide +kernel⟩
theorem tX11_picked : sMt (gG l D c H0 sa) mX11_picked 2 := ⟨wK_X11_picked, wI_X11, by decide +kernel⟩
theorem tX11_heard : sMt (gG l D c H0 sa) mX11_heard 4 := ⟨wK_X11_heard, wI_X11, by decide +kernel⟩
theorem tX11_why : sMt (gG l D c H0 sa) mX11_why 3 := ⟨wK_X11_why, wI_X11, by decide +kernel⟩
theorem tX11_three : sMt (gG l D c H0 sa) mX11_three 3 := ⟨wK_X11_three, wI_X11, by decide +kernel⟩
theorem tX11_message : sMt (gG l D c H0 sa) mX11_message 0 := ⟨wK_X11_message, wI_X11, by decide +kernel⟩
theorem tX11_part : sMt (gG l D c H0 sa) mX11_part 1 := ⟨wK_X11_part, wI_X11, by decide +kernel⟩
theorem tX11_hear : sMt (gG l D c H0 sa) mX11_hear 2 := ⟨wK_X11_hear, wI_X11, by decide +kernel⟩
theorem tX11_write : sMt (gG l D c H0 sa) mX11_write 3 := ⟨wK_X11_write, wI_X11, by decide +kernel⟩
theorem tX11_octet : sMt (gG l D c H0 sa) mX11_octet 1 := ⟨wK_X11_octet, wI_X11, by decide +kernel⟩
theorem tX11_letter : sMt (gG l D c H0 sa) mX11_letter 2 := ⟨wK_X11_letter, wI_X11, by decide +kernel⟩
theorem tX11_led : sMt (gG l D c H0 sa) mX11_led 1 := ⟨wK_X11_led, wI_X11, by decide +kernel⟩
theorem tX11_demand : sMt (gG l D c H0 sa) mX11_demand 3 := ⟨wK_X11_demand, wI_X11, by decide +kernel⟩
theorem tX11_load : sMt (gG l D c H0 sa) mX11_load 2 := ⟨wK_X11_load, wI_X11, by decide +kernel⟩
theorem tX11_units : sMt (gG l D c H0 sa) mX11_units 1 := ⟨wK_X11_units, wI_X11, by decide +kernel⟩
theorem tX11_least : sMt (gG l D c H0 sa) mX11_least 1 := ⟨wK_X11_least, wI_X11, by decide +kernel⟩
theorem tX11_differ : sMt (gG l D c H0 sa) mX11_differ 2 := ⟨wK_X11_differ, wI_X11, by decide +kernel⟩
theorem tX11_clear : sMt (gG l D c H0 sa) mX11_clear 0 := ⟨wK_X11_clear, wI_X11, by decide +kernel⟩
theorem tX11_wish : sMt (gG l D c H0 sa) mX11_wish 0 := ⟨wK_X11_wish, wI_X11, by decide +kernel⟩
theorem tX11_rests : sMt (gG l D c H0 sa) mX11_rests 0 := ⟨wK_X11_rests, wI_X11, by decide +kernel⟩
theorem tX11_rest : sMt (gG l D c H0 sa) mX11_rest 2 := ⟨wK_X11_rest, wI_X11, by decide +kernel⟩
theorem tX11_tries : sMt (gG l D c H0 sa) mX11_tries 1 := ⟨wK_X11_tries, wI_X11, by decide +kernel⟩
theorem tX11_count : sMt (gG l D c H0 sa) mX11_count 1 := ⟨wK_X11_count, wI_X11, by decide +kernel⟩
theorem tX11_isDomain : sMt (gG l D c H0 sa) mX11_isDomain 1 := ⟨wK_X11_isDomain, wI_X11, by decide +kernel⟩
theorem tX11_isPrefix : sMt (gG l D c H0 sa) mX11_isPrefix 1 := ⟨wK_X11_isPrefix, wI_X11, by decide +kernel⟩
theorem tX11_isTie : sMt (gG l D c H0 sa) mX11_isTie 1 := ⟨wK_X11_isTie, wI_X11, by decide +kernel⟩
theorem tX11_isEither : sMt (gG l D c H0 sa) mX11_isEither 1 := ⟨wK_X11_isEither, wI_X11, by decide +kernel⟩
theorem tX12_in : sMt (gG l D c H0 sa) mX12_in 3 := ⟨wK_X12_in, wI_X12, by decide +kernel⟩
theorem tX12_feed : sMt (gG l D c H0 sa) mX12_feed 5 := ⟨wK_X12_feed, wI_X12, by decide +kernel⟩
theorem tX12_cut : sMt (gG l D c H0 sa) mX12_cut 1 := ⟨wK_X12_cut, wI_X12, by decide +kernel⟩
theorem tX12_mask : sMt (gG l D c H0 sa) mX12_mask 1 := ⟨wK_X12_mask, wI_X12, by decide +kernel⟩
theorem tX12_holds : sMt (gG l D c H0 sa) mX12_holds 3 := ⟨wK_X12_holds, wI_X12, by decide +kernel⟩
theorem tX12_isPrefix : sMt (gG l D c H0 sa) mX12_isPrefix 1 := ⟨wK_X12_isPrefix, wI_X12, by decide +kernel⟩
theorem tX12_prefixOf : sMt (gG l D c H0 sa) mX12_prefixOf 2 := ⟨wK_X12_prefixOf, wI_X12, by decide +kernel⟩
theorem tX12_prefix : sMt (gG l D c H0 sa) mX12_prefix 2 := ⟨wK_X12_prefix, wI_X12, by decide +kernel⟩
theorem tX12_isDomain : sMt (gG l D c H0 sa) mX12_isDomain 1 := ⟨wK_X12_isDomain, wI_X12, by decide +kernel⟩
theorem tX12_isTie : sMt (gG l D c H0 sa) mX12_isTie 1 := ⟨wK_X12_isTie, wI_X12, by decide +kernel⟩
theorem tX12_tieOf : sMt (gG l D c H0 sa) mX12_tieOf 2 := ⟨wK_X12_tieOf, wI_X12, by decide +kernel⟩
theorem tX12_provides : sMt (gG l D c H0 sa) mX12_provides 2 := ⟨wK_X12_provides, wI_X12, by decide +kernel⟩
theorem tX12_domain : sMt (gG l D c H0 sa) mX12_domain 0 := ⟨wK_X12_domain, wI_X12, by decide +kernel⟩
theorem tX12_tie : sMt (gG l D c H0 sa) mX12_tie 3 := ⟨wK_X12_tie, wI_X12, by decide +kernel⟩
theorem tX12_pace : sMt (gG l D c H0 sa) mX12_pace 3 := ⟨wK_X12_pace, wI_X12, by decide +kernel⟩
theorem tX12_cone : sMt (gG l D c H0 sa) mX12_cone 2 := ⟨wK_X12_cone, wI_X12, by decide +kernel⟩
theorem tX12_ring : sMt (gG l D c H0 sa) mX12_ring 1 := ⟨wK_X12_ring, wI_X12, by decide +kernel⟩
theorem tX12_walk : sMt (gG l D c H0 sa) mX12_walk 1 := ⟨wK_X12_walk, wI_X12, by decide +kernel⟩
theorem tX12_letWay : sMt (gG l D c H0 sa) mX12_letWay 0 := ⟨wK_X12_letWay, wI_X12, by decide +kernel⟩
theorem tX12_today : sMt (gG l D c H0 sa) mX12_today 1 := ⟨wK_X12_today, wI_X12, by decide +kernel⟩
theorem tX12_right : sMt (gG l D c H0 sa) mX12_right 6 := ⟨wK_X12_right, wI_X12, by decide +kernel⟩
theorem tX12_strike : sMt (gG l D c H0 sa) mX12_strike 2 := ⟨wK_X12_strike, wI_X12, by decide +kernel⟩
theorem tX12_judged : sMt (gG l D c H0 sa) mX12_judged 4 := ⟨wK_X12_judged, wI_X12, by decide +kernel⟩
theorem tX12_judgedAnew : sMt (gG l D c H0 sa) mX12_judgedAnew 4 := ⟨wK_X12_judgedAnew, wI_X12, by decide +kernel⟩
theorem tX12_verdict : sMt (gG l D c H0 sa) mX12_verdict 4 := ⟨wK_X12_verdict, wI_X12, by decide +kernel⟩
theorem tX12_copy : sMt (gG l D c H0 sa) mX12_copy 2 := ⟨wK_X12_copy, wI_X12, by decide +kernel⟩
theorem tX12_nothing : sMt (gG l D c H0 sa) mX12_nothing 1 := ⟨wK_X12_nothing, wI_X12, by decide +kernel⟩
theorem tX12_isThere : sMt (gG l D c H0 sa) mX12_isThere 1 := ⟨wK_X12_isThere, wI_X12, by decide +kernel⟩
theorem tX12_same : sMt (gG l D c H0 sa) mX12_same 2 := ⟨wK_X12_same, wI_X12, by decide +kernel⟩
theorem tX12_marked : sMt (gG l D c H0 sa) mX12_marked 2 := ⟨wK_X12_marked, wI_X12, by decide +kernel⟩
theorem tX12_addMark : sMt (gG l D c H0 sa) mX12_addMark 2 := ⟨wK_X12_addMark, wI_X12, by decide +kernel⟩
theorem tX12_dropMark : sMt (gG l D c H0 sa) mX12_dropMark 2 := ⟨wK_X12_dropMark, wI_X12, by decide +kernel⟩
theorem tX12_front : sMt (gG l D c H0 sa) mX12_front 2 := ⟨wK_X12_front, wI_X12, by decide +kernel⟩
theorem tX12_isIn : sMt (gG l D c H0 sa) mX12_isIn 2 := ⟨wK_X12_isIn, wI_X12, by decide +kernel⟩
theorem tX12_wordOf : sMt (gG l D c H0 sa) mX12_wordOf 1 := ⟨wK_X12_wordOf, wI_X12, by decide +kernel⟩
theorem tX12_wrong : sMt (gG l D c H0 sa) mX12_wrong 1 := ⟨wK_X12_wrong, wI_X12, by decide +kernel⟩
theorem tX12_byteAt : sMt (gG l D c H0 sa) mX12_byteAt 1 := ⟨wK_X12_byteAt, wI_X12, by decide +kernel⟩
theorem tX12_next : sMt (gG l D c H0 sa) mX12_next 0 := ⟨wK_X12_next, wI_X12, by decide +kernel⟩
theorem tX12_isSign : sMt (gG l D c H0 sa) mX12_isSign 1 := ⟨wK_X12_isSign, wI_X12, by decide +kernel⟩
theorem tX12_isWord : sMt (gG l D c H0 sa) mX12_isWord 1 := ⟨wK_X12_isWord, wI_X12, by decide +kernel⟩
theorem tX12_sign : sMt (gG l D c H0 sa) mX12_sign 1 := ⟨wK_X12_sign, wI_X12, by decide +kernel⟩
theorem tX12_within : sMt (gG l D c H0 sa) mX12_within 2 := ⟨wK_X12_within, wI_X12, by decide +kernel⟩
theorem tX12_openLevel : sMt (gG l D c H0 sa) mX12_openLevel 0 := ⟨wK_X12_openLevel, wI_X12, by decide +kernel⟩
theorem tX12_freshRow : sMt (gG l D c H0 sa) mX12_freshRow 0 := ⟨wK_X12_freshRow, wI_X12, by decide +kernel⟩
theorem tX12_endRow : sMt (gG l D c H0 sa) mX12_endRow 0 := ⟨wK_X12_endRow, wI_X12, by decide +kernel⟩
theorem tX12_follows : sMt (gG l D c H0 sa) mX12_follows 2 := ⟨wK_X12_follows, wI_X12, by decide +kernel⟩
theorem tX12_piece : sMt (gG l D c H0 sa) mX12_piece 3 := ⟨wK_X12_piece, wI_X12, by decide +kernel⟩
theorem tX12_wayTest : sMt (gG l D c H0 sa) mX12_wayTest 1 := ⟨wK_X12_wayTest, wI_X12, by decide +kernel⟩
theorem tX12_addressRead : sMt (gG l D c H0 sa) mX12_addressRead 0 := ⟨wK_X12_addressRead, wI_X12, by decide +kernel⟩
theorem tX12_test : sMt (gG l D c H0 sa) mX12_test 0 := ⟨wK_X12_test, wI_X12, by decide +kernel⟩
theorem tX12_actRead : sMt (gG l D c H0 sa) mX12_actRead 0 := ⟨wK_X12_actRead, wI_X12, by decide +kernel⟩
theorem tX12_rowRead : sMt (gG l D c H0 sa) mX12_rowRead 0 := ⟨wK_X12_rowRead, wI_X12, by decide +kernel⟩
theorem tX12_policy : sMt (gG l D c H0 sa) mX12_policy 0 := ⟨wK_X12_policy, wI_X12, by decide +kernel⟩
theorem tX12_fault : sMt (gG l D c H0 sa) mX12_fault 0 := ⟨wK_X12_fault, wI_X12, by decide +kernel⟩
theorem tX12_waysMatch : sMt (gG l D c H0 sa) mX12_waysMatch 3 := ⟨wK_X12_waysMatch, wI_X12, by decide +kernel⟩
theorem tX12_tieWord : sMt (gG l D c H0 sa) mX12_tieWord 2 := ⟨wK_X12_tieWord, wI_X12, by decide +kernel⟩
theorem tX12_related : sMt (gG l D c H0 sa) mX12_related 3 := ⟨wK_X12_related, wI_X12, by decide +kernel⟩
theorem tX12_isSo : sMt (gG l D c H0 sa) mX12_isSo 5 := ⟨wK_X12_isSo, wI_X12, by decide +kernel⟩
theorem tX12_through : sMt (gG l D c H0 sa) mX12_through 4 := ⟨wK_X12_through, wI_X12, by decide +kernel⟩
theorem tX12_route : sMt (gG l D c H0 sa) mX12_route 4 := ⟨wK_X12_route, wI_X12, by decide +kernel⟩
theorem tX12_judge : sMt (gG l D c H0 sa) mX12_judge 3 := ⟨wK_X12_judge, wI_X12, by decide +kernel⟩
theorem tX12_hand : sMt (gG l D c H0 sa) mX12_hand 1 := ⟨wK_X12_hand, wI_X12, by decide +kernel⟩
theorem tX12_init : sMt (gG l D c H0 sa) mX12_init 0 := ⟨wK_X12_init, wI_X12, by decide +kernel⟩
theorem tX12_slot : sMt (gG l D c H0 sa) mX12_slot 3 := ⟨wK_X12_slot, wI_X12, by decide +kernel⟩
theorem tX12_sideOf : sMt (gG l D c H0 sa) mX12_sideOf 2 := ⟨wK_X12_sideOf, wI_X12, by decide +kernel⟩
theorem tX12_isAt : sMt (gG l D c H0 sa) mX12_isAt 2 := ⟨wK_X12_isAt, wI_X12, by decide +kernel⟩
theorem tX12_partnerOf : sMt (gG l D c H0 sa) mX12_partnerOf 2 := ⟨wK_X12_partnerOf, wI_X12, by decide +kernel⟩
theorem tX12_unlike : sMt (gG l D c H0 sa) mX12_unlike 6 := ⟨wK_X12_unlike, wI_X12, by decide +kernel⟩
theorem tX12_beats : sMt (gG l D c H0 sa) mX12_beats 4 := ⟨wK_X12_beats, wI_X12, by decide +kernel⟩
theorem tX12_candidate : sMt (gG l D c H0 sa) mX12_candidate 3 := ⟨wK_X12_candidate, wI_X12, by decide +kernel⟩
theorem tX12_candidates : sMt (gG l D c H0 sa) mX12_candidates 2 := ⟨wK_X12_candidates, wI_X12, by decide +kernel⟩
theorem tX12_best : sMt (gG l D c H0 sa) mX12_best 2 := ⟨wK_X12_best, wI_X12, by decide +kernel⟩
theorem tX12_isBelow : sMt (gG l D c H0 sa) mX12_isBelow 2 := ⟨wK_X12_isBelow, wI_X12, by decide +kernel⟩
theorem tX12_pick : sMt (gG l D c H0 sa) mX12_pick 2 := ⟨wK_X12_pick, wI_X12, by decide +kernel⟩
theorem tX12_look : sMt (gG l D c H0 sa) mX12_look 2 := ⟨wK_X12_look, wI_X12, by decide +kernel⟩
theorem tX12_say : sMt (gG l D c H0 sa) mX12_say 3 := ⟨wK_X12_say, wI_X12, by decide +kernel⟩
theorem tX12_lookAll : sMt (gG l D c H0 sa) mX12_lookAll 1 := ⟨wK_X12_lookAll, wI_X12, by decide +kernel⟩
theorem tX12_sayAll : sMt (gG l D c H0 sa) mX12_sayAll 2 := ⟨wK_X12_sayAll, wI_X12, by decide +kernel⟩
theorem tX12_rethink : sMt (gG l D c H0 sa) mX12_rethink 0 := ⟨wK_X12_rethink, wI_X12, by decide +kernel⟩
theorem tX12_raise : sMt (gG l D c H0 sa) mX12_raise 2 := ⟨wK_X12_raise, wI_X12, by decide +kernel⟩
theorem tX12_use : sMt (gG l D c H0 sa) mX12_use 4 := ⟨wK_X12_use, wI_X12, by decide +kernel⟩
theorem tX12_rule : sMt (gG l D c H0 sa) mX12_rule 3 := ⟨wK_X12_rule, wI_X12, by decide +kernel⟩
theorem tX12_announce : sMt (gG l D c H0 sa) mX12_announce 3 := ⟨wK_X12_announce, wI_X12, by decide +kernel⟩
theorem tX12_withdraw : sMt (gG l D c H0 sa) mX12_withdraw 2 := ⟨wK_X12_withdraw, wI_X12, by decide +kernel⟩
theorem tX12_nextEvent : sMt (gG l D c H0 sa) mX12_nextEvent 0 := ⟨wK_X12_nextEvent, wI_X12, by decide +kernel⟩
theorem tX12_eventAt : sMt (gG l D c H0 sa) mX12_eventAt 1 := ⟨wK_X12_eventAt, wI_X12, by decide +kernel⟩
theorem tX12_doEvent : sMt (gG l D c H0 sa) mX12_doEvent 1 := ⟨wK_X12_doEvent, wI_X12, by decide +kernel⟩
theorem tX12_go : sMt (gG l D c H0 sa) mX12_go 1 := ⟨wK_X12_go, wI_X12, by decide +kernel⟩
theorem tX12_until : sMt (gG l D c H0 sa) mX12_until 1 := ⟨wK_X12_until, wI_X12, by decide +kernel⟩
theorem tX12_picked : sMt (gG l D c H0 sa) mX12_picked 2 := ⟨wK_X12_picked, wI_X12, by decide +kernel⟩
theorem tX12_heard : sMt (gG l D c H0 sa) mX12_heard 4 := ⟨wK_X12_heard, wI_X12, by decide +kernel⟩
theorem tX12_why : sMt (gG l D c H0 sa) mX12_why 3 := ⟨wK_X12_why, wI_X12, by decide +kernel⟩
theorem tX12_three : sMt (gG l D c H0 sa) mX12_three 3 := ⟨wK_X12_three, wI_X12, by decide +kernel⟩
theorem tX12_fails : sMt (gG l D c H0 sa) mX12_fails 2 := ⟨wK_X12_fails, wI_X12, by decide +kernel⟩
theorem tX12_number : sMt (gG l D c H0 sa) mX12_number 2 := ⟨wK_X12_number, wI_X12, by decide +kernel⟩
theorem tX12_partOf : sMt (gG l D c H0 sa) mX12_partOf 3 := ⟨wK_X12_partOf, wI_X12, by decide +kernel⟩
theorem tX12_originRight : sMt (gG l D c H0 sa) mX12_originRight 2 := ⟨wK_X12_originRight, wI_X12, by decide +kernel⟩
theorem tX12_wayRight : sMt (gG l D c H0 sa) mX12_wayRight 2 := ⟨wK_X12_wayRight, wI_X12, by decide +kernel⟩
theorem tX12_costRight : sMt (gG l D c H0 sa) mX12_costRight 2 := ⟨wK_X12_costRight, wI_X12, by decide +kernel⟩
theorem tX12_marksRight : sMt (gG l D c H0 sa) mX12_marksRight 2 := ⟨wK_X12_marksRight, wI_X12, by decide +kernel⟩
theorem tX12_attributes : sMt (gG l D c H0 sa) mX12_attributes 2 := ⟨wK_X12_attributes, wI_X12, by decide +kernel⟩
theorem tX12_message : sMt (gG l D c H0 sa) mX12_message 0 := ⟨wK_X12_message, wI_X12, by decide +kernel⟩
theorem tX12_part : sMt (gG l D c H0 sa) mX12_part 1 := ⟨wK_X12_part, wI_X12, by decide +kernel⟩
theorem tX12_hear : sMt (gG l D c H0 sa) mX12_hear 2 := ⟨wK_X12_hear, wI_X12, by decide +kernel⟩
theorem tX12_octet1 : sMt (gG l D c H0 sa) mX12_octet1 1 := ⟨wK_X12_octet1, wI_X12, by decide +kernel⟩
theorem tX12_octet4 : sMt (gG l D c H0 sa) mX12_octet4 1 := ⟨wK_X12_octet4, wI_X12, by decide +kernel⟩
theorem tX12_prefixOut : sMt (gG l D c H0 sa) mX12_prefixOut 1 := ⟨wK_X12_prefixOut, wI_X12, by decide +kernel⟩
theorem tX12_write : sMt (gG l D c H0 sa) mX12_write 3 := ⟨wK_X12_write, wI_X12, by decide +kernel⟩
theorem tX12_octet : sMt (gG l D c H0 sa) mX12_octet 1 := ⟨wK_X12_octet, wI_X12, by decide +kernel⟩
theorem tX12_sends : sMt (gG l D c H0 sa) mX12_sends 2 := ⟨wK_X12_sends, wI_X12, by decide +kernel⟩
theorem tX12_goes : sMt (gG l D c H0 sa) mX12_goes 2 := ⟨wK_X12_goes, wI_X12, by decide +kernel⟩
theorem tX12_letter : sMt (gG l D c H0 sa) mX12_letter 2 := ⟨wK_X12_letter, wI_X12, by decide +kernel⟩
theorem tX12_led : sMt (gG l D c H0 sa) mX12_led 1 := ⟨wK_X12_led, wI_X12, by decide +kernel⟩
theorem tX12_demand : sMt (gG l D c H0 sa) mX12_demand 3 := ⟨wK_X12_demand, wI_X12, by decide +kernel⟩
theorem tX12_load : sMt (gG l D c H0 sa) mX12_load 2 := ⟨wK_X12_load, wI_X12, by decide +kernel⟩
theorem tX12_units : sMt (gG l D c H0 sa) mX12_units 1 := ⟨wK_X12_units, wI_X12, by decide +kernel⟩
theorem tX12_nodeOf : sMt (gG l D c H0 sa) mX12_nodeOf 2 := ⟨wK_X12_nodeOf, wI_X12, by decide +kernel⟩
theorem tX12_aim : sMt (gG l D c H0 sa) mX12_aim 1 := ⟨wK_X12_aim, wI_X12, by decide +kernel⟩
theorem tX12_costOf : sMt (gG l D c H0 sa) mX12_costOf 4 := ⟨wK_X12_costOf, wI_X12, by decide +kernel⟩
theorem tX12_least : sMt (gG l D c H0 sa) mX12_least 1 := ⟨wK_X12_least, wI_X12, by decide +kernel⟩
theorem tX12_differ : sMt (gG l D c H0 sa) mX12_differ 2 := ⟨wK_X12_differ, wI_X12, by decide +kernel⟩
theorem tX12_clear : sMt (gG l D c H0 sa) mX12_clear 0 := ⟨wK_X12_clear, wI_X12, by decide +kernel⟩
theorem tX12_isWished : sMt (gG l D c H0 sa) mX12_isWished 2 := ⟨wK_X12_isWished, wI_X12, by decide +kernel⟩
theorem tX12_wish : sMt (gG l D c H0 sa) mX12_wish 0 := ⟨wK_X12_wish, wI_X12, by decide +kernel⟩
theorem tX12_states : sMt (gG l D c H0 sa) mX12_states 0 := ⟨wK_X12_states, wI_X12, by decide +kernel⟩
theorem tX12_open : sMt (gG l D c H0 sa) mX12_open 1 := ⟨wK_X12_open, wI_X12, by decide +kernel⟩
theorem tX12_isOffered : sMt (gG l D c H0 sa) mX12_isOffered 1 := ⟨wK_X12_isOffered, wI_X12, by decide +kernel⟩
theorem tX12_acted : sMt (gG l D c H0 sa) mX12_acted 1 := ⟨wK_X12_acted, wI_X12, by decide +kernel⟩
theorem tX12_isRest : sMt (gG l D c H0 sa) mX12_isRest 1 := ⟨wK_X12_isRest, wI_X12, by decide +kernel⟩
theorem tX12_rests : sMt (gG l D c H0 sa) mX12_rests 0 := ⟨wK_X12_rests, wI_X12, by decide +kernel⟩
theorem tX12_rest : sMt (gG l D c H0 sa) mX12_rest 2 := ⟨wK_X12_rest, wI_X12, by decide +kernel⟩
theorem tX12_tries : sMt (gG l D c H0 sa) mX12_tries 1 := ⟨wK_X12_tries, wI_X12, by decide +kernel⟩
theorem tX12_count : sMt (gG l D c H0 sa) mX12_count 1 := ⟨wK_X12_count, wI_X12, by decide +kernel⟩
abbrev zX0 : List Value := [.null, .null, .null, .null, .int 0, .int 0]
theorem zX0_ok (b : Nat × Nat) : ∀ j, j < 6 → defaultValue (tyX0 j) = rv b (vp_V zX0 j)
  | 0, _ => rfl
  | 1, _ => rfl
  | 2, _ => rfl
  | 3, _ => rfl
  | 4, _ => rfl
  | 5, _ => rfl
  | n + 6, h => absurd h (by omega)
abbrev zX1 : List Value := [.null, .null, .null, .int 0, .int 0, .int 0, .int 0, .int 0, .int 0]
theorem zX1_ok (b : Nat × Nat) : ∀ j, j < 9 → defaultValue (tyX1 j) = rv b (vp_V zX1 j)
  | 0, _ => rfl
  | 1, _ => rfl
  | 2, _ => rfl
  | 3, _ => rfl
  | 4, _ => rfl
  | 5, _ => rfl
  | 6, _ => rfl
  | 7, _ => rfl
  | 8, _ => rfl
  | n + 9, h => absurd h (by omega)
abbrev zX2 : List Value := [.null, .null, .null, .null, .null, .null, .int 0, .int 0, .null, .int 0, .int 0]
theorem zX2_ok (b : Nat × Nat) : ∀ j, j < 11 → defaultValue (tyX2 j) = rv b (vp_V zX2 j)
  | 0, _ => rfl
  | 1, _ => rfl
  | 2, _ => rfl
  | 3, _ => rfl
  | 4, _ => rfl
  | 5, _ => rfl
  | 6, _ => rfl
  | 7, _ => rfl
  | 8, _ => rfl
  | 9, _ => rfl
  | 10, _ => rfl
  | n + 11, h => absurd h (by omega)
abbrev zX3 : List Value := [.null, .null, .null, .null, .null, .int 0, .int 0, .int 0, .int 0, .null, .null, .null, .null, .int 0, .int 0, .int 0, .int 0]
theorem zX3_ok (b : Nat × Nat) : ∀ j, j < 17 → defaultValue (tyX3 j) = rv b (vp_V zX3 j)
  | 0, _ => rfl
  | 1, _ => rfl
  | 2, _ => rfl
  | 3, _ => rfl
  | 4, _ => rfl
  | 5, _ => rfl
  | 6, _ => rfl
  | 7, _ => rfl
  | 8, _ => rfl
  | 9, _ => rfl
  | 10, _ => rfl
  | 11, _ => rfl
  | 12, _ => rfl
  | 13, _ => rfl
  | 14, _ => rfl
  | 15, _ => rfl
  | 16, _ => rfl
  | n + 17, h => absurd h (by omega)
abbrev zX4 : List Value := [.null, .null, .null, .null, .null, .null, .null, .null, .null, .int 0, .int 0, .int 0, .null, .null, .int 0]
theorem zX4_ok (b : Nat × Nat) : ∀ j, j < 15 → defaultValue (tyX4 j) = rv b (vp_V zX4 j)
  | 0, _ => rfl
  | 1, _ => rfl
  | 2, _ => rfl
  | 3, _ => rfl
  | 4, _ => rfl
  | 5, _ => rfl
  | 6, _ => rfl
  | 7, _ => rfl
  | 8, _ => rfl
  | 9, _ => rfl
  | 10, _ => rfl
  | 11, _ => rfl
  | 12, _ => rfl
  | 13, _ => rfl
  | 14, _ => rfl
  | n + 15, h => absurd h (by omega)
abbrev zX5 : List Value := [.int 0, .null, .null, .null, .null, .null]
theorem zX5_ok (b : Nat × Nat) : ∀ j, j < 6 → defaultValue (tyX5 j) = rv b (vp_V zX5 j)
  | 0, _ => rfl
  | 1, _ => rfl
  | 2, _ => rfl
  | 3, _ => rfl
  | 4, _ => rfl
  | 5, _ => rfl
  | n + 6, h => absurd h (by omega)
abbrev zX6 : List Value := [.null, .null, .null, .null, .null, .null, .null, .null, .int 0, .int 0, .int 0, .int 0, .int 0, .int 0, .int 0, .int 0, .long 0, .long 0, .int 0, .int 0]
theorem zX6_ok (b : Nat × Nat) : ∀ j, j < 20 → defaultValue (tyX6 j) = rv b (vp_V zX6 j)
  | 0, _ => rfl
  | 1, _ => rfl
  | 2, _ => rfl
  | 3, _ => rfl
  | 4, _ => rfl
  | 5, _ => rfl
  | 6, _ => rfl
  | 7, _ => rfl
  | 8, _ => rfl
  | 9, _ => rfl
  | 10, _ => rfl
  | 11, _ => rfl
  | 12, _ => rfl
  | 13, _ => rfl
  | 14, _ => rfl
  | 15, _ => rfl
  | 16, _ => rfl
  | 17, _ => rfl
  | 18, _ => rfl
  | 19, _ => rfl
  | n + 20, h => absurd h (by omega)
abbrev zX7 : List Value := [.null, .null, .int 0, .int 0, .int 0, .int 0, .int 0, .int 0, .int 0, .int 0, .int 0, .int 0]
theorem zX7_ok (b : Nat × Nat) : ∀ j, j < 12 → defaultValue (tyX7 j) = rv b (vp_V zX7 j)
  | 0, _ => rfl
  | 1, _ => rfl
  | 2, _ => rfl
  | 3, _ => rfl
  | 4, _ => rfl
  | 5, _ => rfl
  | 6, _ => rfl
  | 7, _ => rfl
  | 8, _ => rfl
  | 9, _ => rfl
  | 10, _ => rfl
  | 11, _ => rfl
  | n + 12, h => absurd h (by omega)
abbrev zX8 : List Value := [.null, .null, .null, .null, .null, .null, .null, .null, .null, .int 0, .int 0, .int 0, .int 0]
theorem zX8_ok (b : Nat × Nat) : ∀ j, j < 13 → defaultValue (tyX8 j) = rv b (vp_V zX8 j)
  | 0, _ => rfl
  | 1, _ => rfl
  | 2, _ => rfl
  | 3, _ => rfl
  | 4, _ => rfl
  | 5, _ => rfl
  | 6, _ => rfl
  | 7, _ => rfl
  | 8, _ => rfl
  | 9, _ => rfl
  | 10, _ => rfl
  | 11, _ => rfl
  | 12, _ => rfl
  | n + 13, h => absurd h (by omega)
abbrev zX9 : List Value := [.int 0, .int 0, .int 0, .null, .null, .null, .int 0, .int 0, .int 0]
theorem zX9_ok (b : Nat × Nat) : ∀ j, j < 9 → defaultValue (tyX9 j) = rv b (vp_V zX9 j)
  | 0, _ => rfl
  | 1, _ => rfl
  | 2, _ => rfl
  | 3, _ => rfl
  | 4, _ => rfl
  | 5, _ => rfl
  | 6, _ => rfl
  | 7, _ => rfl
  | 8, _ => rfl
  | n + 9, h => absurd h (by omega)
abbrev zX10 : List Value := [.null, .null, .null, .null, .null, .null, .null, .null, .null, .null, .null, .null, .null, .null, .int 0, .int 0, .int 0, .int 0, .int 0]
theorem zX10_ok (b : Nat × Nat) : ∀ j, j < 19 → defaultValue (tyX10 j) = rv b (vp_V zX10 j)
  | 0, _ => rfl
  | 1, _ => rfl
  | 2, _ => rfl
  | 3, _ => rfl
  | 4, _ => rfl
  | 5, _ => rfl
  | 6, _ => rfl
  | 7, _ => rfl
  | 8, _ => rfl
  | 9, _ => rfl
  | 10, _ => rfl
  | 11, _ => rfl
  | 12, _ => rfl
  | 13, _ => rfl
  | 14, _ => rfl
  | 15, _ => rfl
  | 16, _ => rfl
  | 17, _ => rfl
  | 18, _ => rfl
  | n + 19, h => absurd h (by omega)
abbrev zX11 : List Value := [.null, .null, .null, .null, .null, .null, .null, .null, .null, .null, .int 0, .int 0]
theorem zX11_ok (b : Nat × Nat) : ∀ j, j < 12 → defaultValue (tyX11 j) = rv b (vp_V zX11 j)
  | 0, _ => rfl
  | 1, _ => rfl
  | 2, _ => rfl
  | 3, _ => rfl
  | 4, _ => rfl
  | 5, _ => rfl
  | 6, _ => rfl
  | 7, _ => rfl
  | 8, _ => rfl
  | 9, _ => rfl
  | 10, _ => rfl
  | 11, _ => rfl
  | n + 12, h => absurd h (by omega)
abbrev zX12 : List Value := [.null, .int 0, .int 0, .null, .null, .int 0, .int 0, .null, .null, .null, .null, .null, .null, .null, .null, .int 0, .null, .int 0, .int 0, .null, .null, .null, .null, .null, .null, .null, .int 0, .int 0, .int 0, .int 0, .int 0, .int 0, .null, .int 0, .int 0, .int 0, .int 0, .int 0, .int 0, .int 0, .null, .null, .null, .null, .null, .null, .null, .null, .null, .null, .null, .null, .null, .null, .null, .null, .null, .null, .int 0, .int 0, .null, .null, .null, .null, .null, .null, .int 0, .null, .null, .null, .int 0, .int 0, .int 0, .int 0, .null, .null, .null, .null, .null, .null, .null, .null, .null, .null, .null, .null, .null, .null, .int 0, .null, .null, .int 0, .null, .int 0, .null, .null, .int 0, .int 0, .int 0, .int 0, .null, .int 0, .int 0, .null, .int 0, .null, .int 0, .null, .int 0, .int 0, .null, .null, .null, .null, .null, .null, .int 0, .null, .null, .null, .null, .null, .null, .null, .null, .null]
theorem zX12_ok (b : Nat × Nat) : ∀ j, j < 126 → defaultValue (tyX12 j) = rv b (vp_V zX12 j)
  | 0, _ => rfl
  | 1, _ => rfl
  | 2, _ => rfl
  | 3, _ => rfl
  | 4, _ => rfl
  | 5, _ => rfl
  | 6, _ => rfl
  | 7, _ => rfl
  | 8, _ => rfl
  | 9, _ => rfl
  | 10, _ => rfl
  | 11, _ => rfl
  | 12, _ => rfl
  | 13, _ => rfl
  | 14, _ => rfl
  | 15, _ => rfl
  | 16, _ => rfl
  | 17, _ => rfl
  | 18, _ => rfl
  | 19, _ => rfl
  | 20, _ => rfl
  | 21, _ => rfl
  | 22, _ => rfl
  | 23, _ => rfl
  | 24, _ => rfl
  | 25, _ => rfl
  | 26, _ => rfl
  | 27, _ => rfl
  | 28, _ => rfl
  | 29, _ => rfl
  | 30, _ => rfl
  | 31, _ => rfl
  | 32, _ => rfl
  | 33, _ => rfl
  | 34, _ => rfl
  | 35, _ => rfl
  | 36, _ => rfl
  | 37, _ => rfl
  | 38, _ => rfl
  | 39, _ => rfl
  | 40, _ => rfl
  | 41, _ => rfl
  | 42, _ => rfl
  | 43, _ => rfl
  | 44, _ => rfl
  | 45, _ => rfl
  | 46, _ => rfl
  | 47, _ => rfl
  | 48, _ => rfl
  | 49, _ => rfl
  | 50, _ => rfl
  | 51, _ => rfl
  | 52, _ => rfl
  | 53, _ => rfl
  | 54, _ => rfl
  | 55, _ => rfl
  | 56, _ => rfl
  | 57, _ => rfl
  | 58, _ => rfl
  | 59, _ => rfl
  | 60, _ => rfl
  | 61, _ => rfl
  | 62, _ => rfl
  | 63, _ => rfl
  | 64, _ => rfl
  | 65, _ => rfl
  | 66, _ => rfl
  | 67, _ => rfl
  | 68, _ => rfl
  | 69, _ => rfl
  | 70, _ => rfl
  | 71, _ => rfl
  | 72, _ => rfl
  | 73, _ => rfl
  | 74, _ => rfl
  | 75, _ => rfl
  | 76, _ => rfl
  | 77, _ => rfl
  | 78, _ => rfl
  | 79, _ => rfl
  | 80, _ => rfl
  | 81, _ => rfl
  | 82, _ => rfl
  | 83, _ => rfl
  | 84, _ => rfl
  | 85, _ => rfl
  | 86, _ => rfl
  | 87, _ => rfl
  | 88, _ => rfl
  | 89, _ => rfl
  | 90, _ => rfl
  | 91, _ => rfl
  | 92, _ => rfl
  | 93, _ => rfl
  | 94, _ => rfl
  | 95, _ => rfl
  | 96, _ => rfl
  | 97, _ => rfl
  | 98, _ => rfl
  | 99, _ => rfl
  | 100, _ => rfl
  | 101, _ => rfl
  | 102, _ => rfl
  | 103, _ => rfl
  | 104, _ => rfl
  | 105, _ => rfl
  | 106, _ => rfl
  | 107, _ => rfl
  | 108, _ => rfl
  | 109, _ => rfl
  | 110, _ => rfl
  | 111, _ => rfl
  | 112, _ => rfl
  | 113, _ => rfl
  | 114, _ => rfl
  | 115, _ => rfl
  | 116, _ => rfl
  | 117, _ => rfl
  | 118, _ => rfl
  | 119, _ => rfl
  | 120, _ => rfl
  | 121, _ => rfl
  | 122, _ => rfl
  | 123, _ => rfl
  | 124, _ => rfl
  | 125, _ => rfl
  | n + 126, h => absurd h (by omega)
end SGm
end
section
def yJ_fillI : MethodName := ⟨"java/util/Arrays", "fill", "([II)V"⟩
abbrev cJ_fillI : ByteArray := prog_22_method_103_code
abbrev mJ_fillI : sM := (yJ_fillI, cJ_fillI, 4, none)
theorem wK_J_fillI : Cond.code yJ_fillI cJ_fillI 4 none ∈ lw_ok := lw_i2 79 rfl rfl
theorem wS_J_fillI : Cond.static yJ_fillI ∈ lw_ok := lw_i2 78 rfl rfl
theorem tJ_fillI (l : Launch) (D : va_G) (c : Nat → ClassId) (H0 : Heap) (sa : Nat × Nat × (Nat → Int32)) : sMt (gG l D c H0 sa) mJ_fillI 2 := ⟨wK_J_fillI, lw_i1 7 rfl rfl, by decide +kernel⟩
def yJ_fillB : MethodName := ⟨"java/util/Arrays", "fill", "([BB)V"⟩
abbrev cJ_fillB : ByteArray := prog_22_method_109_code
abbrev mJ_fillB : sM := (yJ_fillB, cJ_fillB, 4, none)
theorem wK_J_fillB : Cond.code yJ_fillB cJ_fillB 4 none ∈ lw_ok := lw_i7 181 rfl rfl
theorem wS_J_fillB : Cond.static yJ_fillB ∈ lw_ok := lw_i7 180 rfl rfl
theorem tJ_fillB (l : Launch) (D : va_G) (c : Nat → ClassId) (H0 : Heap) (sa : Nat × Nat × (Nat → Int32)) : sMt (gG l D c H0 sa) mJ_fillB 2 := ⟨wK_J_fillB, lw_i1 7 rfl rfl, by decide +kernel⟩
def yJ_copyI : MethodName := ⟨"java/util/Arrays", "copyOf", "([II)[I"⟩
abbrev cJ_copyI : ByteArray := prog_22_method_123_code
abbrev mJ_copyI : sM := (yJ_copyI, cJ_copyI, 3, (some (Jvm.ClassFile.FieldType.array Jvm.ClassFile.FieldType.int)))
theorem wK_J_copyI : Cond.code yJ_copyI cJ_copyI 3 (some (Jvm.ClassFile.FieldType.array Jvm.ClassFile.FieldType.int)) ∈ lw_ok := lw_i5 195 rfl rfl
theorem wS_J_copyI : Cond.static yJ_copyI ∈ lw_ok := lw_i5 194 rfl rfl
theorem tJ_copyI (l : Launch) (D : va_G) (c : Nat → ClassId) (H0 : Heap) (sa : Nat × Nat × (Nat → Int32)) : sMt (gG l D c H0 sa) mJ_copyI 2 := ⟨wK_J_copyI, lw_i1 7 rfl rfl, by decide +kernel⟩
def yJ_copyJ : MethodName := ⟨"java/util/Arrays", "copyOf", "([JI)[J"⟩
abbrev cJ_copyJ : ByteArray := prog_22_method_124_code
abbrev mJ_copyJ : sM := (yJ_copyJ, cJ_copyJ, 3, (some (Jvm.ClassFile.FieldType.array Jvm.ClassFile.FieldType.long)))
theorem wK_J_copyJ : Cond.code yJ_copyJ cJ_copyJ 3 (some (Jvm.ClassFile.FieldType.array Jvm.ClassFile.FieldType.long)) ∈ lw_ok := lw_i5 207 rfl rfl
theorem wS_J_copyJ : Cond.static yJ_copyJ ∈ lw_ok := lw_i5 206 rfl rfl
theorem tJ_copyJ (l : Launch) (D : va_G) (c : Nat → ClassId) (H0 : Heap) (sa : Nat × Nat × (Nat → Int32)) : sMt (gG l D c H0 sa) mJ_copyJ 2 := ⟨wK_J_copyJ, lw_i1 7 rfl rfl, by decide +kernel⟩
def yJ_min : MethodName := ⟨"java/lang/Math", "min", "(II)I"⟩
abbrev cJ_min : ByteArray := prog_17_method_69_code
abbrev mJ_min : sM := (yJ_min, cJ_min, 2, (some Jvm.ClassFile.FieldType.int))
theorem wK_J_min : Cond.code yJ_min cJ_min 2 (some Jvm.ClassFile.FieldType.int) ∈ lw_ok := lw_i4 203 rfl rfl
theorem wS_J_min : Cond.static yJ_min ∈ lw_ok := lw_i4 202 rfl rfl
theorem tJ_min (l : Launch) (D : va_G) (c : Nat → ClassId) (H0 : Heap) (sa : Nat × Nat × (Nat → Int32)) : sMt (gG l D c H0 sa) mJ_min 2 := ⟨wK_J_min, lw_i1 16 rfl rfl, by decide +kernel⟩
def yJ_max : MethodName := ⟨"java/lang/Math", "max", "(II)I"⟩
abbrev cJ_max : ByteArray := prog_17_method_65_code
abbrev mJ_max : sM := (yJ_max, cJ_max, 2, (some Jvm.ClassFile.FieldType.int))
theorem wK_J_max : Cond.code yJ_max cJ_max 2 (some Jvm.ClassFile.FieldType.int) ∈ lw_ok := lw_i7 178 rfl rfl
theorem wS_J_max : Cond.static yJ_max ∈ lw_ok := lw_i7 177 rfl rfl
theorem tJ_max (l : Launch) (D : va_G) (c : Nat → ClassId) (H0 : Heap) (sa : Nat × Nat × (Nat → Int32)) : sMt (gG l D c H0 sa) mJ_max 2 := ⟨wK_J_max, lw_i1 16 rfl rfl, by decide +kernel⟩
def yJ_cmp : MethodName := ⟨"java/lang/Integer", "compare", "(II)I"⟩
abbrev cJ_cmp : ByteArray := prog_16_method_40_code
abbrev mJ_cmp : sM := (yJ_cmp, cJ_cmp, 2, (some Jvm.ClassFile.FieldType.int))
theorem wK_J_cmp : Cond.code yJ_cmp cJ_cmp 2 (some Jvm.ClassFile.FieldType.int) ∈ lw_ok := lw_i4 61 rfl rfl
theorem wS_J_cmp : Cond.static yJ_cmp ∈ lw_ok := lw_i4 60 rfl rfl
theorem tJ_cmp (l : Launch) (D : va_G) (c : Nat → ClassId) (H0 : Heap) (sa : Nat × Nat × (Nat → Int32)) : sMt (gG l D c H0 sa) mJ_cmp 2 := ⟨wK_J_cmp, lw_i1 15 rfl rfl, by decide +kernel⟩
def yJ_bits : MethodName := ⟨"java/lang/Integer", "bitCount", "(I)I"⟩
abbrev cJ_bits : ByteArray := prog_16_method_49_code
abbrev mJ_bits : sM := (yJ_bits, cJ_bits, 1, (some Jvm.ClassFile.FieldType.int))
theorem wK_J_bits : Cond.code yJ_bits cJ_bits 1 (some Jvm.ClassFile.FieldType.int) ∈ lw_ok := lw_i4 184 rfl rfl
theorem wS_J_bits : Cond.static yJ_bits ∈ lw_ok := lw_i4 183 rfl rfl
theorem tJ_bits (l : Launch) (D : va_G) (c : Nat → ClassId) (H0 : Heap) (sa : Nat × Nat × (Nat → Int32)) : sMt (gG l D c H0 sa) mJ_bits 1 := ⟨wK_J_bits, lw_i1 15 rfl rfl, by decide +kernel⟩
theorem dJ_fillI_0 : decode cJ_fillI 0 = .ok (.iconst 0, 1) := by decide +kernel
theorem dJ_fillI_1 : decode cJ_fillI 1 = .ok (.istore_n 2, 1) := by decide +kernel
theorem dJ_fillI_2 : decode cJ_fillI 2 = .ok (.aload_n 0, 1) := by decide +kernel
theorem dJ_fillI_3 : decode cJ_fillI 3 = .ok (.arraylength, 1) := by decide +kernel
theorem dJ_fillI_4 : decode cJ_fillI 4 = .ok (.istore_n 3, 1) := by decide +kernel
theorem dJ_fillI_5 : decode cJ_fillI 5 = .ok (.iload_n 2, 1) := by decide +kernel
theorem dJ_fillI_6 : decode cJ_fillI 6 = .ok (.iload_n 3, 1) := by decide +kernel
theorem dJ_fillI_7 : decode cJ_fillI 7 = .ok (.if_icmp .ge 13, 3) := by decide +kernel
theorem dJ_fillI_10 : decode cJ_fillI 10 = .ok (.aload_n 0, 1) := by decide +kernel
theorem dJ_fillI_11 : decode cJ_fillI 11 = .ok (.iload_n 2, 1) := by decide +kernel
theorem dJ_fillI_12 : decode cJ_fillI 12 = .ok (.iload_n 1, 1) := by decide +kernel
theorem dJ_fillI_13 : decode cJ_fillI 13 = .ok (.iastore, 1) := by decide +kernel
theorem dJ_fillI_14 : decode cJ_fillI 14 = .ok (.iinc 2 1, 3) := by decide +kernel
theorem dJ_fillI_17 : decode cJ_fillI 17 = .ok (.goto (-12), 3) := by decide +kernel
theorem dJ_fillI_20 : decode cJ_fillI 20 = .ok (.return_, 1) := by decide +kernel
theorem dJ_fillB_0 : decode cJ_fillB 0 = .ok (.iconst 0, 1) := by decide +kernel
theorem dJ_fillB_1 : decode cJ_fillB 1 = .ok (.istore_n 2, 1) := by decide +kernel
theorem dJ_fillB_2 : decode cJ_fillB 2 = .ok (.aload_n 0, 1) := by decide +kernel
theorem dJ_fillB_3 : decode cJ_fillB 3 = .ok (.arraylength, 1) := by decide +kernel
theorem dJ_fillB_4 : decode cJ_fillB 4 = .ok (.istore_n 3, 1) := by decide +kernel
theorem dJ_fillB_5 : decode cJ_fillB 5 = .ok (.iload_n 2, 1) := by decide +kernel
theorem dJ_fillB_6 : decode cJ_fillB 6 = .ok (.iload_n 3, 1) := by decide +kernel
theorem dJ_fillB_7 : decode cJ_fillB 7 = .ok (.if_icmp .ge 13, 3) := by decide +kernel
theorem dJ_fillB_10 : decode cJ_fillB 10 = .ok (.aload_n 0, 1) := by decide +kernel
theorem dJ_fillB_11 : decode cJ_fillB 11 = .ok (.iload_n 2, 1) := by decide +kernel
theorem dJ_fillB_12 : decode cJ_fillB 12 = .ok (.iload_n 1, 1) := by decide +kernel
theorem dJ_fillB_13 : decode cJ_fillB 13 = .ok (.bastore, 1) := by decide +kernel
theorem dJ_fillB_14 : decode cJ_fillB 14 = .ok (.iinc 2 1, 3) := by decide +kernel
theorem dJ_fillB_17 : decode cJ_fillB 17 = .ok (.goto (-12), 3) := by decide +kernel
theorem dJ_fillB_20 : decode cJ_fillB 20 = .ok (.return_, 1) := by decide +kernel
theorem sUp_sUp (f : Nat → sE) (a : Nat) (x y : sE) : sUp (sUp f a x) a y = sUp f a y := by funext j; simp only [sUp]; split <;> rfl
theorem sUp_at (f : Nat → sE) (a : Nat) (x : sE) : sUp f a x a = x := by simp only [sUp, if_true]
theorem sUp_ne (f : Nat → sE) {a b : Nat} (x : sE) (h : b ≠ a) : sUp f a x b = f b := by simp only [sUp, if_neg h]
def sFill (n : Nat) (v : Value) (f : Nat → Value) : Nat → Value := fun j => if j < n then v else f j
theorem sFill_up (i : Nat) (v : Value) (f : Nat → Value) : updV (sFill i v f) i v = sFill (i + 1) v f := by
  funext j
  simp only [updV, sFill]
  by_cases h : j = i
  · subst h; simp
  · by_cases h2 : j < i
    · rw [if_neg h, if_pos h2, if_pos (by omega)]
    · rw [if_neg h, if_neg h2, if_neg (by omega)]
theorem sFill_0 (v : Value) (f : Nat → Value) : sFill 0 v f = f := by funext j; simp [sFill]
section JDK
variable (l : Launch) (D : va_G) (c : Nat → ClassId) (H0 : Heap) (sa : Nat × Nat × (Nat → Int32))
set_option maxHeartbeats 4000000 in
theorem c_fillI_loop {d a n : Nat} {f : Nat → Value} {v : Int32} {hp : sHp} (ha : a < hp.1) (hn : n < 2 ^ 31) : ∀ (k i : Nat), i + k = n → ∀ (lv : List (Nat × Value)), sGet 0 lv = some (.ref a) → sGet 1 lv = some (.int v) → sGet 2 lv = some (.int (nI i)) → sGet 3 lv = some (.int (nI n)) →
    sV (gG l D c H0 sa) mJ_fillI (sRm d 0 0) (sZ (gG l D c H0 sa) 0 0 (fun r hp' => r = none ∧ hp' = (hp.1, sUp hp.2 a (.inl (0, n, sFill n (.int v) f))))) 5 lv [] (hp.1, sUp hp.2 a (.inl (0, n, sFill i (.int v) f))) 0 0 := by
  intro k
  induction k with
  | zero =>
    intro i hi lv h0 h1 h2 h3
    have : i = n := by omega
    subst this
    refine sv_iload_n dJ_fillI_5 rfl h2 ?_
    refine sv_iload_n dJ_fillI_6 rfl h3 ?_
    refine sv_icmp_ge (tgt := 20) dJ_fillI_7 (by decide) (fun _ => ?_) (fun h => absurd (Int32.le_refl _) h)
    exact sv_vret dJ_fillI_20 rfl (Nat.le_refl _) (Nat.le_refl _) ⟨rfl, rfl⟩
  | succ k ih =>
    intro i hi lv h0 h1 h2 h3
    have hin : i < n := by omega
    refine sv_iload_n dJ_fillI_5 rfl h2 ?_
    refine sv_iload_n dJ_fillI_6 rfl h3 ?_
    refine sv_icmp_ge (tgt := 20) dJ_fillI_7 (by decide) (fun h => absurd h (nI_ge hin hn)) (fun _ => ?_)
    refine sv_aload_n dJ_fillI_10 rfl h0 ?_
    refine sv_iload_n dJ_fillI_11 rfl h2 ?_
    refine sv_iload_n dJ_fillI_12 rfl h1 ?_
    refine sv_iastore (kd := 0) (cA := c 0) (n := n) (f := sFill i (.int v) f) dJ_fillI_13 rfl ha (sUp_at _ _ _) (vp_in_nI hin hn) ?_
    rw [nI_clamp (show i < 2 ^ 31 by omega), sFill_up]
    refine sv_iincK (k := 1) dJ_fillI_14 (by decide) h2 (by decide) ?_
    refine sv_goto (tgt := 5) dJ_fillI_17 (by decide) ?_
    show sV _ _ _ _ _ _ _ (hp.1, sUp (sUp hp.2 a (.inl (0, n, sFill i (.int v) f))) a (.inl (0, n, sFill (i + 1) (.int v) f))) _ _
    rw [sUp_sUp, nI_1]
    exact ih (i + 1) (by omega) _ (sGet_keep h0 (by decide)) (sGet_keep h1 (by decide)) sGet_new (sGet_keep h3 (by decide))
theorem c_fillI {d a n : Nat} {f : Nat → Value} {v : Int32} {hp : sHp} (ha : a < hp.1) (he : hp.2 a = .inl (0, n, f)) (hn : n < 2 ^ 31) : sC (gG l D c H0 sa) mJ_fillI d 0 0 [.ref a, .int v] hp (fun r hp' => r = none ∧ hp' = (hp.1, sUp hp.2 a (.inl (0, n, sFill n (.int v) f)))) := by
  refine sC.of rfl (by decide) (le_t rfl) ?_
  refine sv_iconst (v := 0) dJ_fillI_0 (by decide) ?_
  refine sv_istore_n dJ_fillI_1 rfl (by decide) ?_
  refine sv_aload_n dJ_fillI_2 rfl rfl ?_
  refine sv_arraylength (cA := c 0) (ty := .int) dJ_fillI_3 rfl ha he rfl ?_
  refine sv_istore_n dJ_fillI_4 rfl (by decide) ?_
  refine sv_heap (hp' := (hp.1, sUp hp.2 a (.inl (0, n, sFill 0 (.int v) f)))) rfl (fun j _ => ?_) (c_fillI_loop l D c H0 sa ha hn n 0 (by omega) _ rfl rfl rfl rfl)
  show hp.2 j = sUp hp.2 a _ j
  rw [sFill_0]
  by_cases h : j = a
  · subst h; rw [sUp_at]; exact he
  · rw [sUp_ne _ _ h]
end JDK
end
section
theorem dX10_init_0 : decode cX10_init 0 = .ok (.aload_n 0, 1) := by decide +kernel
theorem dX10_init_1 : decode cX10_init 1 = .ok (.invokespecial 3, 3) := by decide +kernel
theorem dX10_init_4 : decode cX10_init 4 = .ok (.aload_n 0, 1) := by decide +kernel
theorem dX10_init_5 : decode cX10_init 5 = .ok (.bipush 10, 2) := by decide +kernel
theorem dX10_init_7 : decode cX10_init 7 = .ok (.newarray .int, 2) := by decide +kernel
theorem dX10_init_9 : decode cX10_init 9 = .ok (.putfield 9, 3) := by decide +kernel
theorem dX10_init_12 : decode cX10_init 12 = .ok (.aload_n 0, 1) := by decide +kernel
theorem dX10_init_13 : decode cX10_init 13 = .ok (.bipush 10, 2) := by decide +kernel
theorem dX10_init_15 : decode cX10_init 15 = .ok (.newarray .int, 2) := by decide +kernel
theorem dX10_init_17 : decode cX10_init 17 = .ok (.putfield 15, 3) := by decide +kernel
theorem dX10_init_20 : decode cX10_init 20 = .ok (.aload_n 0, 1) := by decide +kernel
theorem dX10_init_21 : decode cX10_init 21 = .ok (.bipush 10, 2) := by decide +kernel
theorem dX10_init_23 : decode cX10_init 23 = .ok (.newarray .int, 2) := by decide +kernel
theorem dX10_init_25 : decode cX10_init 25 = .ok (.putfield 18, 3) := by decide +kernel
theorem dX10_init_28 : decode cX10_init 28 = .ok (.aload_n 0, 1) := by decide +kernel
theorem dX10_init_29 : decode cX10_init 29 = .ok (.bipush 10, 2) := by decide +kernel
theorem dX10_init_31 : decode cX10_init 31 = .ok (.anewarray 21, 3) := by decide +kernel
theorem dX10_init_34 : decode cX10_init 34 = .ok (.putfield 23, 3) := by decide +kernel
theorem dX10_init_37 : decode cX10_init 37 = .ok (.aload_n 0, 1) := by decide +kernel
theorem dX10_init_38 : decode cX10_init 38 = .ok (.bipush 20, 2) := by decide +kernel
theorem dX10_init_40 : decode cX10_init 40 = .ok (.anewarray 27, 3) := by decide +kernel
theorem dX10_init_43 : decode cX10_init 43 = .ok (.putfield 29, 3) := by decide +kernel
theorem dX10_init_46 : decode cX10_init 46 = .ok (.aload_n 0, 1) := by decide +kernel
theorem dX10_init_47 : decode cX10_init 47 = .ok (.bipush 10, 2) := by decide +kernel
theorem dX10_init_49 : decode cX10_init 49 = .ok (.newarray .int, 2) := by decide +kernel
theorem dX10_init_51 : decode cX10_init 51 = .ok (.putfield 33, 3) := by decide +kernel
theorem dX10_init_54 : decode cX10_init 54 = .ok (.aload_n 0, 1) := by decide +kernel
theorem dX10_init_55 : decode cX10_init 55 = .ok (.bipush 10, 2) := by decide +kernel
theorem dX10_init_57 : decode cX10_init 57 = .ok (.newarray .int, 2) := by decide +kernel
theorem dX10_init_59 : decode cX10_init 59 = .ok (.putfield 36, 3) := by decide +kernel
theorem dX10_init_62 : decode cX10_init 62 = .ok (.aload_n 0, 1) := by decide +kernel
theorem dX10_init_63 : decode cX10_init 63 = .ok (.bipush 30, 2) := by decide +kernel
theorem dX10_init_65 : decode cX10_init 65 = .ok (.newarray .int, 2) := by decide +kernel
theorem dX10_init_67 : decode cX10_init 67 = .ok (.putfield 39, 3) := by decide +kernel
theorem dX10_init_70 : decode cX10_init 70 = .ok (.aload_n 0, 1) := by decide +kernel
theorem dX10_init_71 : decode cX10_init 71 = .ok (.bipush 30, 2) := by decide +kernel
theorem dX10_init_73 : decode cX10_init 73 = .ok (.newarray .int, 2) := by decide +kernel
theorem dX10_init_75 : decode cX10_init 75 = .ok (.putfield 42, 3) := by decide +kernel
theorem dX10_init_78 : decode cX10_init 78 = .ok (.aload_n 0, 1) := by decide +kernel
theorem dX10_init_79 : decode cX10_init 79 = .ok (.bipush 30, 2) := by decide +kernel
theorem dX10_init_81 : decode cX10_init 81 = .ok (.newarray .int, 2) := by decide +kernel
theorem dX10_init_83 : decode cX10_init 83 = .ok (.putfield 45, 3) := by decide +kernel
theorem dX10_init_86 : decode cX10_init 86 = .ok (.aload_n 0, 1) := by decide +kernel
theorem dX10_init_87 : decode cX10_init 87 = .ok (.bipush 30, 2) := by decide +kernel
theorem dX10_init_89 : decode cX10_init 89 = .ok (.newarray .int, 2) := by decide +kernel
theorem dX10_init_91 : decode cX10_init 91 = .ok (.putfield 48, 3) := by decide +kernel
theorem dX10_init_94 : decode cX10_init 94 = .ok (.aload_n 0, 1) := by decide +kernel
theorem dX10_init_95 : decode cX10_init 95 = .ok (.bipush 30, 2) := by decide +kernel
theorem dX10_init_97 : decode cX10_init 97 = .ok (.newarray .int, 2) := by decide +kernel
theorem dX10_init_99 : decode cX10_init 99 = .ok (.putfield 51, 3) := by decide +kernel
theorem dX10_init_102 : decode cX10_init 102 = .ok (.aload_n 0, 1) := by decide +kernel
theorem dX10_init_103 : decode cX10_init 103 = .ok (.bipush 30, 2) := by decide +kernel
theorem dX10_init_105 : decode cX10_init 105 = .ok (.newarray .int, 2) := by decide +kernel
theorem dX10_init_107 : decode cX10_init 107 = .ok (.putfield 54, 3) := by decide +kernel
theorem dX10_init_110 : decode cX10_init 110 = .ok (.aload_n 0, 1) := by decide +kernel
theorem dX10_init_111 : decode cX10_init 111 = .ok (.bipush 30, 2) := by decide +kernel
theorem dX10_init_113 : decode cX10_init 113 = .ok (.newarray .int, 2) := by decide +kernel
theorem dX10_init_115 : decode cX10_init 115 = .ok (.putfield 57, 3) := by decide +kernel
theorem dX10_init_118 : decode cX10_init 118 = .ok (.return_, 1) := by decide +kernel
theorem dX11_init_0 : decode cX11_init 0 = .ok (.aload_n 0, 1) := by decide +kernel
theorem dX11_init_1 : decode cX11_init 1 = .ok (.invokespecial 1, 3) := by decide +kernel
theorem dX11_init_4 : decode cX11_init 4 = .ok (.aload_n 0, 1) := by decide +kernel
theorem dX11_init_5 : decode cX11_init 5 = .ok (.sipush 1000, 3) := by decide +kernel
theorem dX11_init_8 : decode cX11_init 8 = .ok (.newarray .int, 2) := by decide +kernel
theorem dX11_init_10 : decode cX11_init 10 = .ok (.putfield 9, 3) := by decide +kernel
theorem dX11_init_13 : decode cX11_init 13 = .ok (.aload_n 0, 1) := by decide +kernel
theorem dX11_init_14 : decode cX11_init 14 = .ok (.bipush 20, 2) := by decide +kernel
theorem dX11_init_16 : decode cX11_init 16 = .ok (.newarray .int, 2) := by decide +kernel
theorem dX11_init_18 : decode cX11_init 18 = .ok (.putfield 13, 3) := by decide +kernel
theorem dX11_init_21 : decode cX11_init 21 = .ok (.aload_n 0, 1) := by decide +kernel
theorem dX11_init_22 : decode cX11_init 22 = .ok (.new 16, 3) := by decide +kernel
theorem dX11_init_25 : decode cX11_init 25 = .ok (.dup, 1) := by decide +kernel
theorem dX11_init_26 : decode cX11_init 26 = .ok (.invokespecial 18, 3) := by decide +kernel
theorem dX11_init_29 : decode cX11_init 29 = .ok (.putfield 19, 3) := by decide +kernel
theorem dX11_init_32 : decode cX11_init 32 = .ok (.aload_n 0, 1) := by decide +kernel
theorem dX11_init_33 : decode cX11_init 33 = .ok (.new 23, 3) := by decide +kernel
theorem dX11_init_36 : decode cX11_init 36 = .ok (.dup, 1) := by decide +kernel
theorem dX11_init_37 : decode cX11_init 37 = .ok (.invokespecial 25, 3) := by decide +kernel
theorem dX11_init_40 : decode cX11_init 40 = .ok (.putfield 26, 3) := by decide +kernel
theorem dX11_init_43 : decode cX11_init 43 = .ok (.aload_n 0, 1) := by decide +kernel
theorem dX11_init_44 : decode cX11_init 44 = .ok (.new 30, 3) := by decide +kernel
theorem dX11_init_47 : decode cX11_init 47 = .ok (.dup, 1) := by decide +kernel
theorem dX11_init_48 : decode cX11_init 48 = .ok (.aload_n 0, 1) := by decide +kernel
theorem dX11_init_49 : decode cX11_init 49 = .ok (.getfield 26, 3) := by decide +kernel
theorem dX11_init_52 : decode cX11_init 52 = .ok (.invokespecial 32, 3) := by decide +kernel
theorem dX11_init_55 : decode cX11_init 55 = .ok (.putfield 35, 3) := by decide +kernel
theorem dX11_init_58 : decode cX11_init 58 = .ok (.aload_n 0, 1) := by decide +kernel
theorem dX11_init_59 : decode cX11_init 59 = .ok (.new 39, 3) := by decide +kernel
theorem dX11_init_62 : decode cX11_init 62 = .ok (.dup, 1) := by decide +kernel
theorem dX11_init_63 : decode cX11_init 63 = .ok (.invokespecial 41, 3) := by decide +kernel
theorem dX11_init_66 : decode cX11_init 66 = .ok (.putfield 42, 3) := by decide +kernel
theorem dX11_init_69 : decode cX11_init 69 = .ok (.aload_n 0, 1) := by decide +kernel
theorem dX11_init_70 : decode cX11_init 70 = .ok (.new 46, 3) := by decide +kernel
theorem dX11_init_73 : decode cX11_init 73 = .ok (.dup, 1) := by decide +kernel
theorem dX11_init_74 : decode cX11_init 74 = .ok (.aload_n 0, 1) := by decide +kernel
theorem dX11_init_75 : decode cX11_init 75 = .ok (.getfield 26, 3) := by decide +kernel
theorem dX11_init_78 : decode cX11_init 78 = .ok (.aload_n 0, 1) := by decide +kernel
theorem dX11_init_79 : decode cX11_init 79 = .ok (.getfield 35, 3) := by decide +kernel
theorem dX11_init_82 : decode cX11_init 82 = .ok (.invokespecial 48, 3) := by decide +kernel
theorem dX11_init_85 : decode cX11_init 85 = .ok (.putfield 51, 3) := by decide +kernel
theorem dX11_init_88 : decode cX11_init 88 = .ok (.aload_n 0, 1) := by decide +kernel
theorem dX11_init_89 : decode cX11_init 89 = .ok (.new 55, 3) := by decide +kernel
theorem dX11_init_92 : decode cX11_init 92 = .ok (.dup, 1) := by decide +kernel
theorem dX11_init_93 : decode cX11_init 93 = .ok (.invokespecial 57, 3) := by decide +kernel
theorem dX11_init_96 : decode cX11_init 96 = .ok (.putfield 58, 3) := by decide +kernel
theorem dX11_init_99 : decode cX11_init 99 = .ok (.aload_n 0, 1) := by decide +kernel
theorem dX11_init_100 : decode cX11_init 100 = .ok (.new 62, 3) := by decide +kernel
theorem dX11_init_103 : decode cX11_init 103 = .ok (.dup, 1) := by decide +kernel
theorem dX11_init_104 : decode cX11_init 104 = .ok (.aload_n 0, 1) := by decide +kernel
theorem dX11_init_105 : decode cX11_init 105 = .ok (.getfield 26, 3) := by decide +kernel
theorem dX11_init_108 : decode cX11_init 108 = .ok (.invokespecial 64, 3) := by decide +kernel
theorem dX11_init_111 : decode cX11_init 111 = .ok (.putfield 65, 3) := by decide +kernel
theorem dX11_init_114 : decode cX11_init 114 = .ok (.aload_n 0, 1) := by decide +kernel
theorem dX11_init_115 : decode cX11_init 115 = .ok (.new 69, 3) := by decide +kernel
theorem dX11_init_118 : decode cX11_init 118 = .ok (.dup, 1) := by decide +kernel
theorem dX11_init_119 : decode cX11_init 119 = .ok (.invokespecial 71, 3) := by decide +kernel
theorem dX11_init_122 : decode cX11_init 122 = .ok (.putfield 72, 3) := by decide +kernel
theorem dX11_init_125 : decode cX11_init 125 = .ok (.return_, 1) := by decide +kernel
theorem dX1_init_0 : decode cX1_init 0 = .ok (.aload_n 0, 1) := by decide +kernel
theorem dX1_init_1 : decode cX1_init 1 = .ok (.invokespecial 3, 3) := by decide +kernel
theorem dX1_init_4 : decode cX1_init 4 = .ok (.aload_n 0, 1) := by decide +kernel
theorem dX1_init_5 : decode cX1_init 5 = .ok (.aload_n 1, 1) := by decide +kernel
theorem dX1_init_6 : decode cX1_init 6 = .ok (.putfield 9, 3) := by decide +kernel
theorem dX1_init_9 : decode cX1_init 9 = .ok (.aload_n 0, 1) := by decide +kernel
theorem dX1_init_10 : decode cX1_init 10 = .ok (.bipush 12, 2) := by decide +kernel
theorem dX1_init_12 : decode cX1_init 12 = .ok (.anewarray 15, 3) := by decide +kernel
theorem dX1_init_15 : decode cX1_init 15 = .ok (.putfield 17, 3) := by decide +kernel
theorem dX1_init_18 : decode cX1_init 18 = .ok (.return_, 1) := by decide +kernel
theorem dX2_init_0 : decode cX2_init 0 = .ok (.aload_n 0, 1) := by decide +kernel
theorem dX2_init_1 : decode cX2_init 1 = .ok (.invokespecial 3, 3) := by decide +kernel
theorem dX2_init_4 : decode cX2_init 4 = .ok (.aload_n 0, 1) := by decide +kernel
theorem dX2_init_5 : decode cX2_init 5 = .ok (.aload_n 1, 1) := by decide +kernel
theorem dX2_init_6 : decode cX2_init 6 = .ok (.putfield 9, 3) := by decide +kernel
theorem dX2_init_9 : decode cX2_init 9 = .ok (.aload_n 0, 1) := by decide +kernel
theorem dX2_init_10 : decode cX2_init 10 = .ok (.bipush 11, 2) := by decide +kernel
theorem dX2_init_12 : decode cX2_init 12 = .ok (.newarray .int, 2) := by decide +kernel
theorem dX2_init_14 : decode cX2_init 14 = .ok (.putfield 15, 3) := by decide +kernel
theorem dX2_init_17 : decode cX2_init 17 = .ok (.aload_n 0, 1) := by decide +kernel
theorem dX2_init_18 : decode cX2_init 18 = .ok (.bipush 11, 2) := by decide +kernel
theorem dX2_init_20 : decode cX2_init 20 = .ok (.newarray .int, 2) := by decide +kernel
theorem dX2_init_22 : decode cX2_init 22 = .ok (.putfield 19, 3) := by decide +kernel
theorem dX2_init_25 : decode cX2_init 25 = .ok (.aload_n 0, 1) := by decide +kernel
theorem dX2_init_26 : decode cX2_init 26 = .ok (.bipush 16, 2) := by decide +kernel
theorem dX2_init_28 : decode cX2_init 28 = .ok (.newarray .int, 2) := by decide +kernel
theorem dX2_init_30 : decode cX2_init 30 = .ok (.putfield 22, 3) := by decide +kernel
theorem dX2_init_33 : decode cX2_init 33 = .ok (.aload_n 0, 1) := by decide +kernel
theorem dX2_init_34 : decode cX2_init 34 = .ok (.bipush 16, 2) := by decide +kernel
theorem dX2_init_36 : decode cX2_init 36 = .ok (.newarray .int, 2) := by decide +kernel
theorem dX2_init_38 : decode cX2_init 38 = .ok (.putfield 25, 3) := by decide +kernel
theorem dX2_init_41 : decode cX2_init 41 = .ok (.aload_n 0, 1) := by decide +kernel
theorem dX2_init_42 : decode cX2_init 42 = .ok (.bipush 16, 2) := by decide +kernel
theorem dX2_init_44 : decode cX2_init 44 = .ok (.newarray .int, 2) := by decide +kernel
theorem dX2_init_46 : decode cX2_init 46 = .ok (.putfield 28, 3) := by decide +kernel
theorem dX2_init_49 : decode cX2_init 49 = .ok (.aload_n 0, 1) := by decide +kernel
theorem dX2_init_50 : decode cX2_init 50 = .ok (.bipush 20, 2) := by decide +kernel
theorem dX2_init_52 : decode cX2_init 52 = .ok (.newarray .long, 2) := by decide +kernel
theorem dX2_init_54 : decode cX2_init 54 = .ok (.putfield 31, 3) := by decide +kernel
theorem dX2_init_57 : decode cX2_init 57 = .ok (.return_, 1) := by decide +kernel
theorem dX3_init_0 : decode cX3_init 0 = .ok (.aload_n 0, 1) := by decide +kernel
theorem dX3_init_1 : decode cX3_init 1 = .ok (.invokespecial 3, 3) := by decide +kernel
theorem dX3_init_4 : decode cX3_init 4 = .ok (.aload_n 0, 1) := by decide +kernel
theorem dX3_init_5 : decode cX3_init 5 = .ok (.sipush 256, 3) := by decide +kernel
theorem dX3_init_8 : decode cX3_init 8 = .ok (.newarray .int, 2) := by decide +kernel
theorem dX3_init_10 : decode cX3_init 10 = .ok (.putfield 11, 3) := by decide +kernel
theorem dX3_init_13 : decode cX3_init 13 = .ok (.aload_n 0, 1) := by decide +kernel
theorem dX3_init_14 : decode cX3_init 14 = .ok (.sipush 256, 3) := by decide +kernel
theorem dX3_init_17 : decode cX3_init 17 = .ok (.newarray .int, 2) := by decide +kernel
theorem dX3_init_19 : decode cX3_init 19 = .ok (.putfield 15, 3) := by decide +kernel
theorem dX3_init_22 : decode cX3_init 22 = .ok (.aload_n 0, 1) := by decide +kernel
theorem dX3_init_23 : decode cX3_init 23 = .ok (.bipush 8, 2) := by decide +kernel
theorem dX3_init_25 : decode cX3_init 25 = .ok (.newarray .int, 2) := by decide +kernel
theorem dX3_init_27 : decode cX3_init 27 = .ok (.putfield 18, 3) := by decide +kernel
theorem dX3_init_30 : decode cX3_init 30 = .ok (.aload_n 0, 1) := by decide +kernel
theorem dX3_init_31 : decode cX3_init 31 = .ok (.iconst 4, 1) := by decide +kernel
theorem dX3_init_32 : decode cX3_init 32 = .ok (.newarray .int, 2) := by decide +kernel
theorem dX3_init_34 : decode cX3_init 34 = .ok (.dup, 1) := by decide +kernel
theorem dX3_init_35 : decode cX3_init 35 = .ok (.iconst 0, 1) := by decide +kernel
theorem dX3_init_36 : decode cX3_init 36 = .ok (.ldc 21, 2) := by decide +kernel
theorem dX3_init_38 : decode cX3_init 38 = .ok (.iastore, 1) := by decide +kernel
theorem dX3_init_39 : decode cX3_init 39 = .ok (.dup, 1) := by decide +kernel
theorem dX3_init_40 : decode cX3_init 40 = .ok (.iconst 1, 1) := by decide +kernel
theorem dX3_init_41 : decode cX3_init 41 = .ok (.ldc 21, 2) := by decide +kernel
theorem dX3_init_43 : decode cX3_init 43 = .ok (.iastore, 1) := by decide +kernel
theorem dX3_init_44 : decode cX3_init 44 = .ok (.dup, 1) := by decide +kernel
theorem dX3_init_45 : decode cX3_init 45 = .ok (.iconst 2, 1) := by decide +kernel
theorem dX3_init_46 : decode cX3_init 46 = .ok (.ldc 21, 2) := by decide +kernel
theorem dX3_init_48 : decode cX3_init 48 = .ok (.iastore, 1) := by decide +kernel
theorem dX3_init_49 : decode cX3_init 49 = .ok (.dup, 1) := by decide +kernel
theorem dX3_init_50 : decode cX3_init 50 = .ok (.iconst 3, 1) := by decide +kernel
theorem dX3_init_51 : decode cX3_init 51 = .ok (.ldc 21, 2) := by decide +kernel
theorem dX3_init_53 : decode cX3_init 53 = .ok (.iastore, 1) := by decide +kernel
theorem dX3_init_54 : decode cX3_init 54 = .ok (.putfield 22, 3) := by decide +kernel
theorem dX3_init_57 : decode cX3_init 57 = .ok (.aload_n 0, 1) := by decide +kernel
theorem dX3_init_58 : decode cX3_init 58 = .ok (.new 25, 3) := by decide +kernel
theorem dX3_init_61 : decode cX3_init 61 = .ok (.dup, 1) := by decide +kernel
theorem dX3_init_62 : decode cX3_init 62 = .ok (.invokespecial 27, 3) := by decide +kernel
theorem dX3_init_65 : decode cX3_init 65 = .ok (.putfield 28, 3) := by decide +kernel
theorem dX3_init_68 : decode cX3_init 68 = .ok (.aload_n 0, 1) := by decide +kernel
theorem dX3_init_69 : decode cX3_init 69 = .ok (.sipush 1000, 3) := by decide +kernel
theorem dX3_init_72 : decode cX3_init 72 = .ok (.newarray .int, 2) := by decide +kernel
theorem dX3_init_74 : decode cX3_init 74 = .ok (.putfield 32, 3) := by decide +kernel
theorem dX3_init_77 : decode cX3_init 77 = .ok (.aload_n 0, 1) := by decide +kernel
theorem dX3_init_78 : decode cX3_init 78 = .ok (.sipush 1000, 3) := by decide +kernel
theorem dX3_init_81 : decode cX3_init 81 = .ok (.newarray .int, 2) := by decide +kernel
theorem dX3_init_83 : decode cX3_init 83 = .ok (.putfield 35, 3) := by decide +kernel
theorem dX3_init_86 : decode cX3_init 86 = .ok (.aload_n 0, 1) := by decide +kernel
theorem dX3_init_87 : decode cX3_init 87 = .ok (.sipush 256, 3) := by decide +kernel
theorem dX3_init_90 : decode cX3_init 90 = .ok (.newarray .int, 2) := by decide +kernel
theorem dX3_init_92 : decode cX3_init 92 = .ok (.putfield 38, 3) := by decide +kernel
theorem dX3_init_95 : decode cX3_init 95 = .ok (.return_, 1) := by decide +kernel
theorem dX4_init_0 : decode cX4_init 0 = .ok (.aload_n 0, 1) := by decide +kernel
theorem dX4_init_1 : decode cX4_init 1 = .ok (.invokespecial 3, 3) := by decide +kernel
theorem dX4_init_4 : decode cX4_init 4 = .ok (.aload_n 0, 1) := by decide +kernel
theorem dX4_init_5 : decode cX4_init 5 = .ok (.bipush 7, 2) := by decide +kernel
theorem dX4_init_7 : decode cX4_init 7 = .ok (.newarray .int, 2) := by decide +kernel
theorem dX4_init_9 : decode cX4_init 9 = .ok (.putfield 11, 3) := by decide +kernel
theorem dX4_init_12 : decode cX4_init 12 = .ok (.aload_n 0, 1) := by decide +kernel
theorem dX4_init_13 : decode cX4_init 13 = .ok (.sipush 245, 3) := by decide +kernel
theorem dX4_init_16 : decode cX4_init 16 = .ok (.newarray .int, 2) := by decide +kernel
theorem dX4_init_18 : decode cX4_init 18 = .ok (.putfield 15, 3) := by decide +kernel
theorem dX4_init_21 : decode cX4_init 21 = .ok (.aload_n 0, 1) := by decide +kernel
theorem dX4_init_22 : decode cX4_init 22 = .ok (.bipush 35, 2) := by decide +kernel
theorem dX4_init_24 : decode cX4_init 24 = .ok (.newarray .int, 2) := by decide +kernel
theorem dX4_init_26 : decode cX4_init 26 = .ok (.putfield 18, 3) := by decide +kernel
theorem dX4_init_29 : decode cX4_init 29 = .ok (.aload_n 0, 1) := by decide +kernel
theorem dX4_init_30 : decode cX4_init 30 = .ok (.bipush 35, 2) := by decide +kernel
theorem dX4_init_32 : decode cX4_init 32 = .ok (.newarray .int, 2) := by decide +kernel
theorem dX4_init_34 : decode cX4_init 34 = .ok (.putfield 21, 3) := by decide +kernel
theorem dX4_init_37 : decode cX4_init 37 = .ok (.aload_n 0, 1) := by decide +kernel
theorem dX4_init_38 : decode cX4_init 38 = .ok (.bipush 35, 2) := by decide +kernel
theorem dX4_init_40 : decode cX4_init 40 = .ok (.newarray .int, 2) := by decide +kernel
theorem dX4_init_42 : decode cX4_init 42 = .ok (.putfield 24, 3) := by decide +kernel
theorem dX4_init_45 : decode cX4_init 45 = .ok (.aload_n 0, 1) := by decide +kernel
theorem dX4_init_46 : decode cX4_init 46 = .ok (.bipush 7, 2) := by decide +kernel
theorem dX4_init_48 : decode cX4_init 48 = .ok (.newarray .int, 2) := by decide +kernel
theorem dX4_init_50 : decode cX4_init 50 = .ok (.putfield 27, 3) := by decide +kernel
theorem dX4_init_53 : decode cX4_init 53 = .ok (.aload_n 0, 1) := by decide +kernel
theorem dX4_init_54 : decode cX4_init 54 = .ok (.bipush 7, 2) := by decide +kernel
theorem dX4_init_56 : decode cX4_init 56 = .ok (.newarray .int, 2) := by decide +kernel
theorem dX4_init_58 : decode cX4_init 58 = .ok (.putfield 30, 3) := by decide +kernel
theorem dX4_init_61 : decode cX4_init 61 = .ok (.aload_n 0, 1) := by decide +kernel
theorem dX4_init_62 : decode cX4_init 62 = .ok (.bipush 16, 2) := by decide +kernel
theorem dX4_init_64 : decode cX4_init 64 = .ok (.newarray .int, 2) := by decide +kernel
theorem dX4_init_66 : decode cX4_init 66 = .ok (.putfield 33, 3) := by decide +kernel
theorem dX4_init_69 : decode cX4_init 69 = .ok (.aload_n 0, 1) := by decide +kernel
theorem dX4_init_70 : decode cX4_init 70 = .ok (.bipush 16, 2) := by decide +kernel
theorem dX4_init_72 : decode cX4_init 72 = .ok (.newarray .int, 2) := by decide +kernel
theorem dX4_init_74 : decode cX4_init 74 = .ok (.putfield 36, 3) := by decide +kernel
theorem dX4_init_77 : decode cX4_init 77 = .ok (.aload_n 0, 1) := by decide +kernel
theorem dX4_init_78 : decode cX4_init 78 = .ok (.bipush 16, 2) := by decide +kernel
theorem dX4_init_80 : decode cX4_init 80 = .ok (.newarray .byte, 2) := by decide +kernel
theorem dX4_init_82 : decode cX4_init 82 = .ok (.putfield 39, 3) := by decide +kernel
theorem dX4_init_85 : decode cX4_init 85 = .ok (.aload_n 0, 1) := by decide +kernel
theorem dX4_init_86 : decode cX4_init 86 = .ok (.iconst 4, 1) := by decide +kernel
theorem dX4_init_87 : decode cX4_init 87 = .ok (.newarray .int, 2) := by decide +kernel
theorem dX4_init_89 : decode cX4_init 89 = .ok (.putfield 43, 3) := by decide +kernel
theorem dX4_init_92 : decode cX4_init 92 = .ok (.return_, 1) := by decide +kernel
theorem dX6_init_0 : decode cX6_init 0 = .ok (.aload_n 0, 1) := by decide +kernel
theorem dX6_init_1 : decode cX6_init 1 = .ok (.invokespecial 3, 3) := by decide +kernel
theorem dX6_init_4 : decode cX6_init 4 = .ok (.aload_n 0, 1) := by decide +kernel
theorem dX6_init_5 : decode cX6_init 5 = .ok (.sipush 1001, 3) := by decide +kernel
theorem dX6_init_8 : decode cX6_init 8 = .ok (.newarray .int, 2) := by decide +kernel
theorem dX6_init_10 : decode cX6_init 10 = .ok (.putfield 9, 3) := by decide +kernel
theorem dX6_init_13 : decode cX6_init 13 = .ok (.aload_n 0, 1) := by decide +kernel
theorem dX6_init_14 : decode cX6_init 14 = .ok (.sipush 1001, 3) := by decide +kernel
theorem dX6_init_17 : decode cX6_init 17 = .ok (.newarray .int, 2) := by decide +kernel
theorem dX6_init_19 : decode cX6_init 19 = .ok (.putfield 15, 3) := by decide +kernel
theorem dX6_init_22 : decode cX6_init 22 = .ok (.aload_n 0, 1) := by decide +kernel
theorem dX6_init_23 : decode cX6_init 23 = .ok (.sipush 1001, 3) := by decide +kernel
theorem dX6_init_26 : decode cX6_init 26 = .ok (.newarray .int, 2) := by decide +kernel
theorem dX6_init_28 : decode cX6_init 28 = .ok (.putfield 18, 3) := by decide +kernel
theorem dX6_init_31 : decode cX6_init 31 = .ok (.aload_n 0, 1) := by decide +kernel
theorem dX6_init_32 : decode cX6_init 32 = .ok (.sipush 2000, 3) := by decide +kernel
theorem dX6_init_35 : decode cX6_init 35 = .ok (.newarray .int, 2) := by decide +kernel
theorem dX6_init_37 : decode cX6_init 37 = .ok (.putfield 21, 3) := by decide +kernel
theorem dX6_init_40 : decode cX6_init 40 = .ok (.aload_n 0, 1) := by decide +kernel
theorem dX6_init_41 : decode cX6_init 41 = .ok (.bipush 40, 2) := by decide +kernel
theorem dX6_init_43 : decode cX6_init 43 = .ok (.newarray .int, 2) := by decide +kernel
theorem dX6_init_45 : decode cX6_init 45 = .ok (.putfield 24, 3) := by decide +kernel
theorem dX6_init_48 : decode cX6_init 48 = .ok (.aload_n 0, 1) := by decide +kernel
theorem dX6_init_49 : decode cX6_init 49 = .ok (.bipush 40, 2) := by decide +kernel
theorem dX6_init_51 : decode cX6_init 51 = .ok (.newarray .long, 2) := by decide +kernel
theorem dX6_init_53 : decode cX6_init 53 = .ok (.putfield 27, 3) := by decide +kernel
theorem dX6_init_56 : decode cX6_init 56 = .ok (.aload_n 0, 1) := by decide +kernel
theorem dX6_init_57 : decode cX6_init 57 = .ok (.sipush 250, 3) := by decide +kernel
theorem dX6_init_60 : decode cX6_init 60 = .ok (.newarray .long, 2) := by decide +kernel
theorem dX6_init_62 : decode cX6_init 62 = .ok (.putfield 31, 3) := by decide +kernel
theorem dX6_init_65 : decode cX6_init 65 = .ok (.aload_n 0, 1) := by decide +kernel
theorem dX6_init_66 : decode cX6_init 66 = .ok (.sipush 250, 3) := by decide +kernel
theorem dX6_init_69 : decode cX6_init 69 = .ok (.newarray .long, 2) := by decide +kernel
theorem dX6_init_71 : decode cX6_init 71 = .ok (.putfield 34, 3) := by decide +kernel
theorem dX6_init_74 : decode cX6_init 74 = .ok (.return_, 1) := by decide +kernel
theorem dX7_init_0 : decode cX7_init 0 = .ok (.aload_n 0, 1) := by decide +kernel
theorem dX7_init_1 : decode cX7_init 1 = .ok (.invokespecial 3, 3) := by decide +kernel
theorem dX7_init_4 : decode cX7_init 4 = .ok (.aload_n 0, 1) := by decide +kernel
theorem dX7_init_5 : decode cX7_init 5 = .ok (.bipush 20, 2) := by decide +kernel
theorem dX7_init_7 : decode cX7_init 7 = .ok (.newarray .int, 2) := by decide +kernel
theorem dX7_init_9 : decode cX7_init 9 = .ok (.putfield 9, 3) := by decide +kernel
theorem dX7_init_12 : decode cX7_init 12 = .ok (.aload_n 0, 1) := by decide +kernel
theorem dX7_init_13 : decode cX7_init 13 = .ok (.bipush 8, 2) := by decide +kernel
theorem dX7_init_15 : decode cX7_init 15 = .ok (.newarray .int, 2) := by decide +kernel
theorem dX7_init_17 : decode cX7_init 17 = .ok (.putfield 15, 3) := by decide +kernel
theorem dX7_init_20 : decode cX7_init 20 = .ok (.aload_n 0, 1) := by decide +kernel
theorem dX7_init_21 : decode cX7_init 21 = .ok (.iconst (-1), 1) := by decide +kernel
theorem dX7_init_22 : decode cX7_init 22 = .ok (.putfield 18, 3) := by decide +kernel
theorem dX7_init_25 : decode cX7_init 25 = .ok (.return_, 1) := by decide +kernel
theorem dX8_init_0 : decode cX8_init 0 = .ok (.aload_n 0, 1) := by decide +kernel
theorem dX8_init_1 : decode cX8_init 1 = .ok (.invokespecial 3, 3) := by decide +kernel
theorem dX8_init_4 : decode cX8_init 4 = .ok (.aload_n 0, 1) := by decide +kernel
theorem dX8_init_5 : decode cX8_init 5 = .ok (.aload_n 1, 1) := by decide +kernel
theorem dX8_init_6 : decode cX8_init 6 = .ok (.putfield 9, 3) := by decide +kernel
theorem dX8_init_9 : decode cX8_init 9 = .ok (.aload_n 0, 1) := by decide +kernel
theorem dX8_init_10 : decode cX8_init 10 = .ok (.aload_n 2, 1) := by decide +kernel
theorem dX8_init_11 : decode cX8_init 11 = .ok (.putfield 15, 3) := by decide +kernel
theorem dX8_init_14 : decode cX8_init 14 = .ok (.aload_n 0, 1) := by decide +kernel
theorem dX8_init_15 : decode cX8_init 15 = .ok (.sipush 800, 3) := by decide +kernel
theorem dX8_init_18 : decode cX8_init 18 = .ok (.newarray .int, 2) := by decide +kernel
theorem dX8_init_20 : decode cX8_init 20 = .ok (.putfield 19, 3) := by decide +kernel
theorem dX8_init_23 : decode cX8_init 23 = .ok (.aload_n 0, 1) := by decide +kernel
theorem dX8_init_24 : decode cX8_init 24 = .ok (.sipush 800, 3) := by decide +kernel
theorem dX8_init_27 : decode cX8_init 27 = .ok (.newarray .int, 2) := by decide +kernel
theorem dX8_init_29 : decode cX8_init 29 = .ok (.putfield 23, 3) := by decide +kernel
theorem dX8_init_32 : decode cX8_init 32 = .ok (.aload_n 0, 1) := by decide +kernel
theorem dX8_init_33 : decode cX8_init 33 = .ok (.getfield 23, 3) := by decide +kernel
theorem dX8_init_36 : decode cX8_init 36 = .ok (.iconst (-1), 1) := by decide +kernel
theorem dX8_init_37 : decode cX8_init 37 = .ok (.invokestatic 26, 3) := by decide +kernel
theorem dX8_init_40 : decode cX8_init 40 = .ok (.aload_n 0, 1) := by decide +kernel
theorem dX8_init_41 : decode cX8_init 41 = .ok (.bipush 10, 2) := by decide +kernel
theorem dX8_init_43 : decode cX8_init 43 = .ok (.anewarray 32, 3) := by decide +kernel
theorem dX8_init_46 : decode cX8_init 46 = .ok (.putfield 34, 3) := by decide +kernel
theorem dX8_init_49 : decode cX8_init 49 = .ok (.iconst 0, 1) := by decide +kernel
theorem dX8_init_50 : decode cX8_init 50 = .ok (.istore_n 3, 1) := by decide +kernel
theorem dX8_init_51 : decode cX8_init 51 = .ok (.iload_n 3, 1) := by decide +kernel
theorem dX8_init_52 : decode cX8_init 52 = .ok (.bipush 10, 2) := by decide +kernel
theorem dX8_init_54 : decode cX8_init 54 = .ok (.if_icmp .ge 22, 3) := by decide +kernel
theorem dX8_init_57 : decode cX8_init 57 = .ok (.aload_n 0, 1) := by decide +kernel
theorem dX8_init_58 : decode cX8_init 58 = .ok (.getfield 34, 3) := by decide +kernel
theorem dX8_init_61 : decode cX8_init 61 = .ok (.iload_n 3, 1) := by decide +kernel
theorem dX8_init_62 : decode cX8_init 62 = .ok (.new 32, 3) := by decide +kernel
theorem dX8_init_65 : decode cX8_init 65 = .ok (.dup, 1) := by decide +kernel
theorem dX8_init_66 : decode cX8_init 66 = .ok (.invokespecial 38, 3) := by decide +kernel
theorem dX8_init_69 : decode cX8_init 69 = .ok (.aastore, 1) := by decide +kernel
theorem dX8_init_70 : decode cX8_init 70 = .ok (.iinc 3 1, 3) := by decide +kernel
theorem dX8_init_73 : decode cX8_init 73 = .ok (.goto (-22), 3) := by decide +kernel
theorem dX8_init_76 : decode cX8_init 76 = .ok (.aload_n 0, 1) := by decide +kernel
theorem dX8_init_77 : decode cX8_init 77 = .ok (.bipush 10, 2) := by decide +kernel
theorem dX8_init_79 : decode cX8_init 79 = .ok (.newarray .int, 2) := by decide +kernel
theorem dX8_init_81 : decode cX8_init 81 = .ok (.putfield 39, 3) := by decide +kernel
theorem dX8_init_84 : decode cX8_init 84 = .ok (.aload_n 0, 1) := by decide +kernel
theorem dX8_init_85 : decode cX8_init 85 = .ok (.new 32, 3) := by decide +kernel
theorem dX8_init_88 : decode cX8_init 88 = .ok (.dup, 1) := by decide +kernel
theorem dX8_init_89 : decode cX8_init 89 = .ok (.invokespecial 38, 3) := by decide +kernel
theorem dX8_init_92 : decode cX8_init 92 = .ok (.putfield 42, 3) := by decide +kernel
theorem dX8_init_95 : decode cX8_init 95 = .ok (.aload_n 0, 1) := by decide +kernel
theorem dX8_init_96 : decode cX8_init 96 = .ok (.new 32, 3) := by decide +kernel
theorem dX8_init_99 : decode cX8_init 99 = .ok (.dup, 1) := by decide +kernel
theorem dX8_init_100 : decode cX8_init 100 = .ok (.invokespecial 38, 3) := by decide +kernel
theorem dX8_init_103 : decode cX8_init 103 = .ok (.putfield 46, 3) := by decide +kernel
theorem dX8_init_106 : decode cX8_init 106 = .ok (.aload_n 0, 1) := by decide +kernel
theorem dX8_init_107 : decode cX8_init 107 = .ok (.new 32, 3) := by decide +kernel
theorem dX8_init_110 : decode cX8_init 110 = .ok (.dup, 1) := by decide +kernel
theorem dX8_init_111 : decode cX8_init 111 = .ok (.invokespecial 38, 3) := by decide +kernel
theorem dX8_init_114 : decode cX8_init 114 = .ok (.putfield 49, 3) := by decide +kernel
theorem dX8_init_117 : decode cX8_init 117 = .ok (.return_, 1) := by decide +kernel
end
section
/-- the cells of a new DomainHouse -/
def tC : Nat → sE := fun j => match j with
  | 0 => .inr (11, [.ref 1, .ref 2, .ref 3, .ref 6, .ref 21, .ref 23, .ref 32, .ref 76, .ref 87, .ref 94, .int 0, .int 0])
  | 1 => .inl (0, 1000, fun _ => .int 0)
  | 2 => .inl (0, 20, fun _ => .int 0)
  | 3 => .inr (7, [.ref 4, .ref 5, .int 0, .int 0, .int 0, .int 0, .int 0, .int 0, .int 0, .int (-1), .int 0, .int 0])
  | 4 => .inl (0, 20, fun _ => .int 0)
  | 5 => .inl (0, 8, fun _ => .int 0)
  | 6 => .inr (10, [.ref 7, .ref 8, .ref 9, .ref 10, .ref 11, .ref 12, .ref 13, .ref 14, .ref 15, .ref 16, .ref 17, .ref 18, .ref 19, .ref 20, .int 0, .int 0, .int 0, .int 0, .int 0])
  | 7 => .inl (0, 10, fun _ => .int 0)
  | 8 => .inl (0, 10, fun _ => .int 0)
  | 9 => .inl (0, 10, fun _ => .int 0)
  | 10 => .inl (5, 10, fun _ => .null)
  | 11 => .inl (6, 20, fun _ => .null)
  | 12 => .inl (0, 10, fun _ => .int 0)
  | 13 => .inl (0, 10, fun _ => .int 0)
  | 14 => .inl (0, 30, fun _ => .int 0)
  | 15 => .inl (0, 30, fun _ => .int 0)
  | 16 => .inl (0, 30, fun _ => .int 0)
  | 17 => .inl (0, 30, fun _ => .int 0)
  | 18 => .inl (0, 30, fun _ => .int 0)
  | 19 => .inl (0, 30, fun _ => .int 0)
  | 20 => .inl (0, 30, fun _ => .int 0)
  | 21 => .inr (1, [.ref 6, .ref 22, .null, .int 0, .int 0, .int 0, .int 0, .int 0, .int 0])
  | 22 => .inl (7, 12, fun _ => .null)
  | 23 => .inr (6, [.ref 24, .ref 25, .ref 26, .ref 27, .ref 28, .ref 29, .ref 30, .ref 31, .int 0, .int 0, .int 0, .int 0, .int 0, .int 0, .int 0, .int 0, .long 0, .long 0, .int 0, .int 0])
  | 24 => .inl (0, 1001, fun _ => .int 0)
  | 25 => .inl (0, 1001, fun _ => .int 0)
  | 26 => .inl (0, 1001, fun _ => .int 0)
  | 27 => .inl (0, 2000, fun _ => .int 0)
  | 28 => .inl (0, 40, fun _ => .int 0)
  | 29 => .inl (1, 40, fun _ => .long 0)
  | 30 => .inl (1, 250, fun _ => .long 0)
  | 31 => .inl (1, 250, fun _ => .long 0)
  | 32 => .inr (8, [.ref 6, .ref 21, .ref 33, .ref 34, .ref 35, .ref 66, .ref 67, .ref 70, .ref 73, .int 0, .int 0, .int 0, .int 0])
  | 33 => .inl (0, 800, fun _ => .int 0)
  | 34 => .inl (0, 800, sFill 800 (.int (-1)) (fun _ => .int 0))
  | 35 => .inl (4, 10, updV (updV (updV (updV (updV (updV (updV (updV (updV (updV (fun _ => .null) 0 (.ref 36)) 1 (.ref 39)) 2 (.ref 42)) 3 (.ref 45)) 4 (.ref 48)) 5 (.ref 51)) 6 (.ref 54)) 7 (.ref 57)) 8 (.ref 60)) 9 (.ref 63))
  | 36 => .inr (7, [.ref 37, .ref 38, .int 0, .int 0, .int 0, .int 0, .int 0, .int 0, .int 0, .int (-1), .int 0, .int 0])
  | 37 => .inl (0, 20, fun _ => .int 0)
  | 38 => .inl (0, 8, fun _ => .int 0)
  | 39 => .inr (7, [.ref 40, .ref 41, .int 0, .int 0, .int 0, .int 0, .int 0, .int 0, .int 0, .int (-1), .int 0, .int 0])
  | 40 => .inl (0, 20, fun _ => .int 0)
  | 41 => .inl (0, 8, fun _ => .int 0)
  | 42 => .inr (7, [.ref 43, .ref 44, .int 0, .int 0, .int 0, .int 0, .int 0, .int 0, .int 0, .int (-1), .int 0, .int 0])
  | 43 => .inl (0, 20, fun _ => .int 0)
  | 44 => .inl (0, 8, fun _ => .int 0)
  | 45 => .inr (7, [.ref 46, .ref 47, .int 0, .int 0, .int 0, .int 0, .int 0, .int 0, .int 0, .int (-1), .int 0, .int 0])
  | 46 => .inl (0, 20, fun _ => .int 0)
  | 47 => .inl (0, 8, fun _ => .int 0)
  | 48 => .inr (7, [.ref 49, .ref 50, .int 0, .int 0, .int 0, .int 0, .int 0, .int 0, .int 0, .int (-1), .int 0, .int 0])
  | 49 => .inl (0, 20, fun _ => .int 0)
  | 50 => .inl (0, 8, fun _ => .int 0)
  | 51 => .inr (7, [.ref 52, .ref 53, .int 0, .int 0, .int 0, .int 0, .int 0, .int 0, .int 0, .int (-1), .int 0, .int 0])
  | 52 => .inl (0, 20, fun _ => .int 0)
  | 53 => .inl (0, 8, fun _ => .int 0)
  | 54 => .inr (7, [.ref 55, .ref 56, .int 0, .int 0, .int 0, .int 0, .int 0, .int 0, .int 0, .int (-1), .int 0, .int 0])
  | 55 => .inl (0, 20, fun _ => .int 0)
  | 56 => .inl (0, 8, fun _ => .int 0)
  | 57 => .inr (7, [.ref 58, .ref 59, .int 0, .int 0, .int 0, .int 0, .int 0, .int 0, .int 0, .int (-1), .int 0, .int 0])
  | 58 => .inl (0, 20, fun _ => .int 0)
  | 59 => .inl (0, 8, fun _ => .int 0)
  | 60 => .inr (7, [.ref 61, .ref 62, .int 0, .int 0, .int 0, .int 0, .int 0, .int 0, .int 0, .int (-1), .int 0, .int 0])
  | 61 => .inl (0, 20, fun _ => .int 0)
  | 62 => .inl (0, 8, fun _ => .int 0)
  | 63 => .inr (7, [.ref 64, .ref 65, .int 0, .int 0, .int 0, .int 0, .int 0, .int 0, .int 0, .int (-1), .int 0, .int 0])
  | 64 => .inl (0, 20, fun _ => .int 0)
  | 65 => .inl (0, 8, fun _ => .int 0)
  | 66 => .inl (0, 10, fun _ => .int 0)
  | 67 => .inr (7, [.ref 68, .ref 69, .int 0, .int 0, .int 0, .int 0, .int 0, .int 0, .int 0, .int (-1), .int 0, .int 0])
  | 68 => .inl (0, 20, fun _ => .int 0)
  | 69 => .inl (0, 8, fun _ => .int 0)
  | 70 => .inr (7, [.ref 71, .ref 72, .int 0, .int 0, .int 0, .int 0, .int 0, .int 0, .int 0, .int (-1), .int 0, .int 0])
  | 71 => .inl (0, 20, fun _ => .int 0)
  | 72 => .inl (0, 8, fun _ => .int 0)
  | 73 => .inr (7, [.ref 74, .ref 75, .int 0, .int 0, .int 0, .int 0, .int 0, .int 0, .int 0, .int (-1), .int 0, .int 0])
  | 74 => .inl (0, 20, fun _ => .int 0)
  | 75 => .inl (0, 8, fun _ => .int 0)
  | 76 => .inr (3, [.ref 77, .ref 78, .ref 79, .ref 80, .null, .int 0, .int 0, .int 0, .int 0, .ref 81, .ref 84, .ref 85, .ref 86, .int 0, .int 0, .int 0, .int 0])
  | 77 => .inl (0, 256, fun _ => .int 0)
  | 78 => .inl (0, 256, fun _ => .int 0)
  | 79 => .inl (0, 8, fun _ => .int 0)
  | 80 => .inl (0, 4, updV (updV (updV (updV (fun _ => .int 0) 0 (.int (-99999999))) 1 (.int (-99999999))) 2 (.int (-99999999))) 3 (.int (-99999999)))
  | 81 => .inr (7, [.ref 82, .ref 83, .int 0, .int 0, .int 0, .int 0, .int 0, .int 0, .int 0, .int (-1), .int 0, .int 0])
  | 82 => .inl (0, 20, fun _ => .int 0)
  | 83 => .inl (0, 8, fun _ => .int 0)
  | 84 => .inl (0, 1000, fun _ => .int 0)
  | 85 => .inl (0, 1000, fun _ => .int 0)
  | 86 => .inl (0, 256, fun _ => .int 0)
  | 87 => .inr (2, [.ref 6, .ref 88, .ref 90, .ref 91, .ref 92, .ref 93, .int 0, .int 0, .ref 89, .int 0, .int 0])
  | 88 => .inl (0, 11, fun _ => .int 0)
  | 89 => .inl (0, 11, fun _ => .int 0)
  | 90 => .inl (0, 16, fun _ => .int 0)
  | 91 => .inl (0, 16, fun _ => .int 0)
  | 92 => .inl (0, 16, fun _ => .int 0)
  | 93 => .inl (1, 20, fun _ => .long 0)
  | 94 => .inr (4, [.ref 96, .ref 97, .ref 98, .ref 99, .ref 100, .ref 101, .ref 102, .ref 103, .ref 104, .int 0, .int 0, .int 0, .ref 95, .ref 105, .int 0])
  | 95 => .inl (0, 7, fun _ => .int 0)
  | 96 => .inl (0, 245, fun _ => .int 0)
  | 97 => .inl (0, 35, fun _ => .int 0)
  | 98 => .inl (0, 35, fun _ => .int 0)
  | 99 => .inl (0, 35, fun _ => .int 0)
  | 100 => .inl (0, 7, fun _ => .int 0)
  | 101 => .inl (0, 7, fun _ => .int 0)
  | 102 => .inl (0, 16, fun _ => .int 0)
  | 103 => .inl (0, 16, fun _ => .int 0)
  | 104 => .inl (2, 16, fun _ => .int 0)
  | 105 => .inl (0, 4, fun _ => .int 0)
  | _ => .inr (0, [])
set_option maxHeartbeats 40000000 in
set_option maxRecDepth 100000 in
theorem ctorC (l : Launch) (D : va_G) (c : Nat → ClassId) (H0 : Heap) (sa : Nat × Nat × (Nat → Int32)) : sC (gG l D c H0 sa) mX11_init 20 105 12522 [.ref 0] (1, fun _ => .inr (11, zX11)) (fun r hp => r = none ∧ hp.1 = 106 ∧ ∀ j, j < 106 → hp.2 j = tC j) := by
  refine sC.of rfl (by decide) (le_t rfl) ?_
  refine sv_aload_n (pc := 0) dX11_init_0 rfl rfl ?_
  refine sv_objinit (pc := 1) dX11_init_1 wM_X11_1 wV_obj wK_obj ⟨le_t rfl, le_t rfl⟩ (le_t rfl) ?_
  refine sv_aload_n (pc := 4) dX11_init_4 rfl rfl ?_
  refine sv_sipush (pc := 5) (v := 1000) dX11_init_5 (by decide) ?_
  refine sw_newarray (pc := 8) (kd := 0) (a := 1) (n1 := 2) (N := 1000) (ce1 := 1) (sl1 := 1000) (v := .int 0) dX11_init_8 rfl wA_int rfl (fun U => sI_Cond_int U _) (by decide) (by decide) rfl (fun _ => rfl) rfl rfl rfl rfl rfl rfl ?_
  refine sw_putfinal (pc := 10) dX11_init_10 (gCX11 _ _ _ _ _) 0 (by decide) wF_X11_9 rfl rfl rfl rfl rfl (fun _ => rfl) (fun _ => rfl) rfl ?_
  refine sv_aload_n (pc := 13) dX11_init_13 rfl rfl ?_
  refine sv_bipush (pc := 14) (v := 20) dX11_init_14 (by decide) ?_
  refine sw_newarray (pc := 16) (kd := 0) (a := 2) (n1 := 3) (N := 20) (ce1 := 2) (sl1 := 1020) (v := .int 0) dX11_init_16 rfl wA_int rfl (fun U => sI_Cond_int U _) (by decide) (by decide) rfl (fun _ => rfl) rfl rfl rfl rfl rfl rfl ?_
  refine sw_putfinal (pc := 18) dX11_init_18 (gCX11 _ _ _ _ _) 1 (by decide) wF_X11_13 rfl rfl rfl rfl rfl (fun _ => rfl) (fun _ => rfl) rfl ?_
  refine sv_aload_n (pc := 21) dX11_init_21 rfl rfl ?_
  refine sw_new (pc := 22) (a := 3) (n1 := 4) (ce1 := 3) (sl1 := 1032) (fs := zX7) dX11_init_22 (gCX7 _ _ _ _ _) wC_X11_16 wN_X7 wI_X7 zX7_ok rfl rfl rfl rfl rfl rfl ?_
  refine sv_dup (pc := 25) dX11_init_25 rfl ?_
  refine sv_callI (pc := 26) (M' := mX7_init) (d' := 19) (C' := 2) (S' := 28) (av := []) ?_ (gOk _ _ _ _ _) dX11_init_26 (tX7_init _ _ _ _ _) rfl rfl wV_X7_init wM_X11_18 ⟨le_t rfl, le_t rfl⟩ ⟨le_t rfl, le_t rfl⟩ rfl (le_t rfl) (fun _ _ h => h)
  refine sC.of rfl (by decide) (le_t rfl) ?_
  refine sv_aload_n (pc := 0) dX7_init_0 rfl rfl ?_
  refine sv_objinit (pc := 1) dX7_init_1 wM_X7_3 wV_obj wK_obj ⟨le_t rfl, le_t rfl⟩ (le_t rfl) ?_
  refine sv_aload_n (pc := 4) dX7_init_4 rfl rfl ?_
  refine sv_bipush (pc := 5) (v := 20) dX7_init_5 (by decide) ?_
  refine sw_newarray (pc := 7) (kd := 0) (a := 4) (n1 := 5) (N := 20) (ce1 := 1) (sl1 := 20) (v := .int 0) dX7_init_7 rfl wA_int rfl (fun U => sI_Cond_int U _) (by decide) (by decide) rfl (fun _ => rfl) rfl rfl rfl rfl rfl rfl ?_
  refine sw_putfinal (pc := 9) dX7_init_9 (gCX7 _ _ _ _ _) 0 (by decide) wF_X7_9 rfl rfl rfl rfl rfl (fun _ => rfl) (fun _ => rfl) rfl ?_
  refine sv_aload_n (pc := 12) dX7_init_12 rfl rfl ?_
  refine sv_bipush (pc := 13) (v := 8) dX7_init_13 (by decide) ?_
  refine sw_newarray (pc := 15) (kd := 0) (a := 5) (n1 := 6) (N := 8) (ce1 := 2) (sl1 := 28) (v := .int 0) dX7_init_15 rfl wA_int rfl (fun U => sI_Cond_int U _) (by decide) (by decide) rfl (fun _ => rfl) rfl rfl rfl rfl rfl rfl ?_
  refine sw_putfinal (pc := 17) dX7_init_17 (gCX7 _ _ _ _ _) 1 (by decide) wF_X7_15 rfl rfl rfl rfl rfl (fun _ => rfl) (fun _ => rfl) rfl ?_
  refine sv_aload_n (pc := 20) dX7_init_20 rfl rfl ?_
  refine sv_iconst (pc := 21) (v := (-1)) dX7_init_21 (by decide) ?_
  refine sw_putfield (pc := 22) dX7_init_22 (gCX7 _ _ _ _ _) 9 (by decide) wF_X7_18 rfl rfl rfl (fun _ => rfl) (fun _ => rfl) rfl ?_
  refine sv_vret (pc := 25) dX7_init_25 rfl (le_t rfl) (le_t rfl) ?_
  refine sw_putfinal (pc := 29) dX11_init_29 (gCX11 _ _ _ _ _) 2 (by decide) wF_X11_19 rfl rfl rfl rfl rfl (fun _ => rfl) (fun _ => rfl) rfl ?_
  refine sv_aload_n (pc := 32) dX11_init_32 rfl rfl ?_
  refine sw_new (pc := 33) (a := 6) (n1 := 7) (ce1 := 6) (sl1 := 1079) (fs := zX10) dX11_init_33 (gCX10 _ _ _ _ _) wC_X11_23 wN_X10 wI_X10 zX10_ok rfl rfl rfl rfl rfl rfl ?_
  refine sv_dup (pc := 36) dX11_init_36 rfl ?_
  refine sv_callI (pc := 37) (M' := mX10_init) (d' := 19) (C' := 14) (S' := 290) (av := []) ?_ (gOk _ _ _ _ _) dX11_init_37 (tX10_init _ _ _ _ _) rfl rfl wV_X10_init wM_X11_25 ⟨le_t rfl, le_t rfl⟩ ⟨le_t rfl, le_t rfl⟩ rfl (le_t rfl) (fun _ _ h => h)
  refine sC.of rfl (by decide) (le_t rfl) ?_
  refine sv_aload_n (pc := 0) dX10_init_0 rfl rfl ?_
  refine sv_objinit (pc := 1) dX10_init_1 wM_X10_3 wV_obj wK_obj ⟨le_t rfl, le_t rfl⟩ (le_t rfl) ?_
  refine sv_aload_n (pc := 4) dX10_init_4 rfl rfl ?_
  refine sv_bipush (pc := 5) (v := 10) dX10_init_5 (by decide) ?_
  refine sw_newarray (pc := 7) (kd := 0) (a := 7) (n1 := 8) (N := 10) (ce1 := 1) (sl1 := 10) (v := .int 0) dX10_init_7 rfl wA_int rfl (fun U => sI_Cond_int U _) (by decide) (by decide) rfl (fun _ => rfl) rfl rfl rfl rfl rfl rfl ?_
  refine sw_putfinal (pc := 9) dX10_init_9 (gCX10 _ _ _ _ _) 0 (by decide) wF_X10_9 rfl rfl rfl rfl rfl (fun _ => rfl) (fun _ => rfl) rfl ?_
  refine sv_aload_n (pc := 12) dX10_init_12 rfl rfl ?_
  refine sv_bipush (pc := 13) (v := 10) dX10_init_13 (by decide) ?_
  refine sw_newarray (pc := 15) (kd := 0) (a := 8) (n1 := 9) (N := 10) (ce1 := 2) (sl1 := 20) (v := .int 0) dX10_init_15 rfl wA_int rfl (fun U => sI_Cond_int U _) (by decide) (by decide) rfl (fun _ => rfl) rfl rfl rfl rfl rfl rfl ?_
  refine sw_putfinal (pc := 17) dX10_init_17 (gCX10 _ _ _ _ _) 1 (by decide) wF_X10_15 rfl rfl rfl rfl rfl (fun _ => rfl) (fun _ => rfl) rfl ?_
  refine sv_aload_n (pc := 20) dX10_init_20 rfl rfl ?_
  refine sv_bipush (pc := 21) (v := 10) dX10_init_21 (by decide) ?_
  refine sw_newarray (pc := 23) (kd := 0) (a := 9) (n1 := 10) (N := 10) (ce1 := 3) (sl1 := 30) (v := .int 0) dX10_init_23 rfl wA_int rfl (fun U => sI_Cond_int U _) (by decide) (by decide) rfl (fun _ => rfl) rfl rfl rfl rfl rfl rfl ?_
  refine sw_putfinal (pc := 25) dX10_init_25 (gCX10 _ _ _ _ _) 2 (by decide) wF_X10_18 rfl rfl rfl rfl rfl (fun _ => rfl) (fun _ => rfl) rfl ?_
  refine sv_aload_n (pc := 28) dX10_init_28 rfl rfl ?_
  refine sv_bipush (pc := 29) (v := 10) dX10_init_29 (by decide) ?_
  refine sw_anewarray (pc := 31) (kd := 5) (a := 10) (n1 := 11) (N := 10) (ce1 := 4) (sl1 := 40) dX10_init_31 wC_X10_21 rfl (by decide) (by decide) rfl rfl rfl rfl rfl rfl rfl ?_
  refine sw_putfinal (pc := 34) dX10_init_34 (gCX10 _ _ _ _ _) 3 (by decide) wF_X10_23 rfl rfl rfl rfl rfl (fun _ => rfl) (fun _ => rfl) rfl ?_
  refine sv_aload_n (pc := 37) dX10_init_37 rfl rfl ?_
  refine sv_bipush (pc := 38) (v := 20) dX10_init_38 (by decide) ?_
  refine sw_anewarray (pc := 40) (kd := 6) (a := 11) (n1 := 12) (N := 20) (ce1 := 5) (sl1 := 60) dX10_init_40 wC_X10_27 rfl (by decide) (by decide) rfl rfl rfl rfl rfl rfl rfl ?_
  refine sw_putfinal (pc := 43) dX10_init_43 (gCX10 _ _ _ _ _) 4 (by decide) wF_X10_29 rfl rfl rfl rfl rfl (fun _ => rfl) (fun _ => rfl) rfl ?_
  refine sv_aload_n (pc := 46) dX10_init_46 rfl rfl ?_
  refine sv_bipush (pc := 47) (v := 10) dX10_init_47 (by decide) ?_
  refine sw_newarray (pc := 49) (kd := 0) (a := 12) (n1 := 13) (N := 10) (ce1 := 6) (sl1 := 70) (v := .int 0) dX10_init_49 rfl wA_int rfl (fun U => sI_Cond_int U _) (by decide) (by decide) rfl (fun _ => rfl) rfl rfl rfl rfl rfl rfl ?_
  refine sw_putfinal (pc := 51) dX10_init_51 (gCX10 _ _ _ _ _) 5 (by decide) wF_X10_33 rfl rfl rfl rfl rfl (fun _ => rfl) (fun _ => rfl) rfl ?_
  refine sv_aload_n (pc := 54) dX10_init_54 rfl rfl ?_
  refine sv_bipush (pc := 55) (v := 10) dX10_init_55 (by decide) ?_
  refine sw_newarray (pc := 57) (kd := 0) (a := 13) (n1 := 14) (N := 10) (ce1 := 7) (sl1 := 80) (v := .int 0) dX10_init_57 rfl wA_int rfl (fun U => sI_Cond_int U _) (by decide) (by decide) rfl (fun _ => rfl) rfl rfl rfl rfl rfl rfl ?_
  refine sw_putfinal (pc := 59) dX10_init_59 (gCX10 _ _ _ _ _) 6 (by decide) wF_X10_36 rfl rfl rfl rfl rfl (fun _ => rfl) (fun _ => rfl) rfl ?_
  refine sv_aload_n (pc := 62) dX10_init_62 rfl rfl ?_
  refine sv_bipush (pc := 63) (v := 30) dX10_init_63 (by decide) ?_
  refine sw_newarray (pc := 65) (kd := 0) (a := 14) (n1 := 15) (N := 30) (ce1 := 8) (sl1 := 110) (v := .int 0) dX10_init_65 rfl wA_int rfl (fun U => sI_Cond_int U _) (by decide) (by decide) rfl (fun _ => rfl) rfl rfl rfl rfl rfl rfl ?_
  refine sw_putfinal (pc := 67) dX10_init_67 (gCX10 _ _ _ _ _) 7 (by decide) wF_X10_39 rfl rfl rfl rfl rfl (fun _ => rfl) (fun _ => rfl) rfl ?_
  refine sv_aload_n (pc := 70) dX10_init_70 rfl rfl ?_
  refine sv_bipush (pc := 71) (v := 30) dX10_init_71 (by decide) ?_
  refine sw_newarray (pc := 73) (kd := 0) (a := 15) (n1 := 16) (N := 30) (ce1 := 9) (sl1 := 140) (v := .int 0) dX10_init_73 rfl wA_int rfl (fun U => sI_Cond_int U _) (by decide) (by decide) rfl (fun _ => rfl) rfl rfl rfl rfl rfl rfl ?_
  refine sw_putfinal (pc := 75) dX10_init_75 (gCX10 _ _ _ _ _) 8 (by decide) wF_X10_42 rfl rfl rfl rfl rfl (fun _ => rfl) (fun _ => rfl) rfl ?_
  refine sv_aload_n (pc := 78) dX10_init_78 rfl rfl ?_
  refine sv_bipush (pc := 79) (v := 30) dX10_init_79 (by decide) ?_
  refine sw_newarray (pc := 81) (kd := 0) (a := 16) (n1 := 17) (N := 30) (ce1 := 10) (sl1 := 170) (v := .int 0) dX10_init_81 rfl wA_int rfl (fun U => sI_Cond_int U _) (by decide) (by decide) rfl (fun _ => rfl) rfl rfl rfl rfl rfl rfl ?_
  refine sw_putfinal (pc := 83) dX10_init_83 (gCX10 _ _ _ _ _) 9 (by decide) wF_X10_45 rfl rfl rfl rfl rfl (fun _ => rfl) (fun _ => rfl) rfl ?_
  refine sv_aload_n (pc := 86) dX10_init_86 rfl rfl ?_
  refine sv_bipush (pc := 87) (v := 30) dX10_init_87 (by decide) ?_
  refine sw_newarray (pc := 89) (kd := 0) (a := 17) (n1 := 18) (N := 30) (ce1 := 11) (sl1 := 200) (v := .int 0) dX10_init_89 rfl wA_int rfl (fun U => sI_Cond_int U _) (by decide) (by decide) rfl (fun _ => rfl) rfl rfl rfl rfl rfl rfl ?_
  refine sw_putfinal (pc := 91) dX10_init_91 (gCX10 _ _ _ _ _) 10 (by decide) wF_X10_48 rfl rfl rfl rfl rfl (fun _ => rfl) (fun _ => rfl) rfl ?_
  refine sv_aload_n (pc := 94) dX10_init_94 rfl rfl ?_
  refine sv_bipush (pc := 95) (v := 30) dX10_init_95 (by decide) ?_
  refine sw_newarray (pc := 97) (kd := 0) (a := 18) (n1 := 19) (N := 30) (ce1 := 12) (sl1 := 230) (v := .int 0) dX10_init_97 rfl wA_int rfl (fun U => sI_Cond_int U _) (by decide) (by decide) rfl (fun _ => rfl) rfl rfl rfl rfl rfl rfl ?_
  refine sw_putfinal (pc := 99) dX10_init_99 (gCX10 _ _ _ _ _) 11 (by decide) wF_X10_51 rfl rfl rfl rfl rfl (fun _ => rfl) (fun _ => rfl) rfl ?_
  refine sv_aload_n (pc := 102) dX10_init_102 rfl rfl ?_
  refine sv_bipush (pc := 103) (v := 30) dX10_init_103 (by decide) ?_
  refine sw_newarray (pc := 105) (kd := 0) (a := 19) (n1 := 20) (N := 30) (ce1 := 13) (sl1 := 260) (v := .int 0) dX10_init_105 rfl wA_int rfl (fun U => sI_Cond_int U _) (by decide) (by decide) rfl (fun _ => rfl) rfl rfl rfl rfl rfl rfl ?_
  refine sw_putfinal (pc := 107) dX10_init_107 (gCX10 _ _ _ _ _) 12 (by decide) wF_X10_54 rfl rfl rfl rfl rfl (fun _ => rfl) (fun _ => rfl) rfl ?_
  refine sv_aload_n (pc := 110) dX10_init_110 rfl rfl ?_
  refine sv_bipush (pc := 111) (v := 30) dX10_init_111 (by decide) ?_
  refine sw_newarray (pc := 113) (kd := 0) (a := 20) (n1 := 21) (N := 30) (ce1 := 14) (sl1 := 290) (v := .int 0) dX10_init_113 rfl wA_int rfl (fun U => sI_Cond_int U _) (by decide) (by decide) rfl (fun _ => rfl) rfl rfl rfl rfl rfl rfl ?_
  refine sw_putfinal (pc := 115) dX10_init_115 (gCX10 _ _ _ _ _) 13 (by decide) wF_X10_57 rfl rfl rfl rfl rfl (fun _ => rfl) (fun _ => rfl) rfl ?_
  refine sv_vret (pc := 118) dX10_init_118 rfl (le_t rfl) (le_t rfl) ?_
  refine sw_putfinal (pc := 40) dX11_init_40 (gCX11 _ _ _ _ _) 3 (by decide) wF_X11_26 rfl rfl rfl rfl rfl (fun _ => rfl) (fun _ => rfl) rfl ?_
  refine sv_aload_n (pc := 43) dX11_init_43 rfl rfl ?_
  refine sw_new (pc := 44) (a := 21) (n1 := 22) (ce1 := 21) (sl1 := 1378) (fs := zX1) dX11_init_44 (gCX1 _ _ _ _ _) wC_X11_30 wN_X1 wI_X1 zX1_ok rfl rfl rfl rfl rfl rfl ?_
  refine sv_dup (pc := 47) dX11_init_47 rfl ?_
  refine sv_aload_n (pc := 48) dX11_init_48 rfl rfl ?_
  refine sw_getfield (pc := 49) dX11_init_49 (gCX11 _ _ _ _ _) 3 (by decide) wF_X11_26 rfl rfl rfl ?_
  refine sv_callI (pc := 52) (M' := mX1_init) (d' := 19) (C' := 1) (S' := 12) (av := [.ref 6]) ?_ (gOk _ _ _ _ _) dX11_init_52 (tX1_init _ _ _ _ _) rfl rfl wV_X1_init wM_X11_32 ⟨le_t rfl, le_t rfl⟩ ⟨le_t rfl, le_t rfl⟩ rfl (le_t rfl) (fun _ _ h => h)
  refine sC.of rfl (by decide) (le_t rfl) ?_
  refine sv_aload_n (pc := 0) dX1_init_0 rfl rfl ?_
  refine sv_objinit (pc := 1) dX1_init_1 wM_X1_3 wV_obj wK_obj ⟨le_t rfl, le_t rfl⟩ (le_t rfl) ?_
  refine sv_aload_n (pc := 4) dX1_init_4 rfl rfl ?_
  refine sv_aload_n (pc := 5) dX1_init_5 rfl rfl ?_
  refine sw_putfinal (pc := 6) dX1_init_6 (gCX1 _ _ _ _ _) 0 (by decide) wF_X1_9 rfl rfl rfl rfl rfl (fun _ => rfl) (fun _ => rfl) rfl ?_
  refine sv_aload_n (pc := 9) dX1_init_9 rfl rfl ?_
  refine sv_bipush (pc := 10) (v := 12) dX1_init_10 (by decide) ?_
  refine sw_anewarray (pc := 12) (kd := 7) (a := 22) (n1 := 23) (N := 12) (ce1 := 1) (sl1 := 12) dX1_init_12 wC_X1_15 rfl (by decide) (by decide) rfl rfl rfl rfl rfl rfl rfl ?_
  refine sw_putfinal (pc := 15) dX1_init_15 (gCX1 _ _ _ _ _) 1 (by decide) wF_X1_17 rfl rfl rfl rfl rfl (fun _ => rfl) (fun _ => rfl) rfl ?_
  refine sv_vret (pc := 18) dX1_init_18 rfl (le_t rfl) (le_t rfl) ?_
  refine sw_putfinal (pc := 55) dX11_init_55 (gCX11 _ _ _ _ _) 4 (by decide) wF_X11_35 rfl rfl rfl rfl rfl (fun _ => rfl) (fun _ => rfl) rfl ?_
  refine sv_aload_n (pc := 58) dX11_init_58 rfl rfl ?_
  refine sw_new (pc := 59) (a := 23) (n1 := 24) (ce1 := 23) (sl1 := 1410) (fs := zX6) dX11_init_59 (gCX6 _ _ _ _ _) wC_X11_39 wN_X6 wI_X6 zX6_ok rfl rfl rfl rfl rfl rfl ?_
  refine sv_dup (pc := 62) dX11_init_62 rfl ?_
  refine sv_callI (pc := 63) (M' := mX6_init) (d' := 19) (C' := 8) (S' := 5583) (av := []) ?_ (gOk _ _ _ _ _) dX11_init_63 (tX6_init _ _ _ _ _) rfl rfl wV_X6_init wM_X11_41 ⟨le_t rfl, le_t rfl⟩ ⟨le_t rfl, le_t rfl⟩ rfl (le_t rfl) (fun _ _ h => h)
  refine sC.of rfl (by decide) (le_t rfl) ?_
  refine sv_aload_n (pc := 0) dX6_init_0 rfl rfl ?_
  refine sv_objinit (pc := 1) dX6_init_1 wM_X6_3 wV_obj wK_obj ⟨le_t rfl, le_t rfl⟩ (le_t rfl) ?_
  refine sv_aload_n (pc := 4) dX6_init_4 rfl rfl ?_
  refine sv_sipush (pc := 5) (v := 1001) dX6_init_5 (by decide) ?_
  refine sw_newarray (pc := 8) (kd := 0) (a := 24) (n1 := 25) (N := 1001) (ce1 := 1) (sl1 := 1001) (v := .int 0) dX6_init_8 rfl wA_int rfl (fun U => sI_Cond_int U _) (by decide) (by decide) rfl (fun _ => rfl) rfl rfl rfl rfl rfl rfl ?_
  refine sw_putfinal (pc := 10) dX6_init_10 (gCX6 _ _ _ _ _) 0 (by decide) wF_X6_9 rfl rfl rfl rfl rfl (fun _ => rfl) (fun _ => rfl) rfl ?_
  refine sv_aload_n (pc := 13) dX6_init_13 rfl rfl ?_
  refine sv_sipush (pc := 14) (v := 1001) dX6_init_14 (by decide) ?_
  refine sw_newarray (pc := 17) (kd := 0) (a := 25) (n1 := 26) (N := 1001) (ce1 := 2) (sl1 := 2002) (v := .int 0) dX6_init_17 rfl wA_int rfl (fun U => sI_Cond_int U _) (by decide) (by decide) rfl (fun _ => rfl) rfl rfl rfl rfl rfl rfl ?_
  refine sw_putfinal (pc := 19) dX6_init_19 (gCX6 _ _ _ _ _) 1 (by decide) wF_X6_15 rfl rfl rfl rfl rfl (fun _ => rfl) (fun _ => rfl) rfl ?_
  refine sv_aload_n (pc := 22) dX6_init_22 rfl rfl ?_
  refine sv_sipush (pc := 23) (v := 1001) dX6_init_23 (by decide) ?_
  refine sw_newarray (pc := 26) (kd := 0) (a := 26) (n1 := 27) (N := 1001) (ce1 := 3) (sl1 := 3003) (v := .int 0) dX6_init_26 rfl wA_int rfl (fun U => sI_Cond_int U _) (by decide) (by decide) rfl (fun _ => rfl) rfl rfl rfl rfl rfl rfl ?_
  refine sw_putfinal (pc := 28) dX6_init_28 (gCX6 _ _ _ _ _) 2 (by decide) wF_X6_18 rfl rfl rfl rfl rfl (fun _ => rfl) (fun _ => rfl) rfl ?_
  refine sv_aload_n (pc := 31) dX6_init_31 rfl rfl ?_
  refine sv_sipush (pc := 32) (v := 2000) dX6_init_32 (by decide) ?_
  refine sw_newarray (pc := 35) (kd := 0) (a := 27) (n1 := 28) (N := 2000) (ce1 := 4) (sl1 := 5003) (v := .int 0) dX6_init_35 rfl wA_int rfl (fun U => sI_Cond_int U _) (by decide) (by decide) rfl (fun _ => rfl) rfl rfl rfl rfl rfl rfl ?_
  refine sw_putfinal (pc := 37) dX6_init_37 (gCX6 _ _ _ _ _) 3 (by decide) wF_X6_21 rfl rfl rfl rfl rfl (fun _ => rfl) (fun _ => rfl) rfl ?_
  refine sv_aload_n (pc := 40) dX6_init_40 rfl rfl ?_
  refine sv_bipush (pc := 41) (v := 40) dX6_init_41 (by decide) ?_
  refine sw_newarray (pc := 43) (kd := 0) (a := 28) (n1 := 29) (N := 40) (ce1 := 5) (sl1 := 5043) (v := .int 0) dX6_init_43 rfl wA_int rfl (fun U => sI_Cond_int U _) (by decide) (by decide) rfl (fun _ => rfl) rfl rfl rfl rfl rfl rfl ?_
  refine sw_putfinal (pc := 45) dX6_init_45 (gCX6 _ _ _ _ _) 4 (by decide) wF_X6_24 rfl rfl rfl rfl rfl (fun _ => rfl) (fun _ => rfl) rfl ?_
  refine sv_aload_n (pc := 48) dX6_init_48 rfl rfl ?_
  refine sv_bipush (pc := 49) (v := 40) dX6_init_49 (by decide) ?_
  refine sw_newarray (pc := 51) (kd := 1) (a := 29) (n1 := 30) (N := 40) (ce1 := 6) (sl1 := 5083) (v := .long 0) dX6_init_51 rfl wA_long rfl (fun U => sI_Cond_long U _) (by decide) (by decide) rfl (fun _ => rfl) rfl rfl rfl rfl rfl rfl ?_
  refine sw_putfinal (pc := 53) dX6_init_53 (gCX6 _ _ _ _ _) 5 (by decide) wF_X6_27 rfl rfl rfl rfl rfl (fun _ => rfl) (fun _ => rfl) rfl ?_
  refine sv_aload_n (pc := 56) dX6_init_56 rfl rfl ?_
  refine sv_sipush (pc := 57) (v := 250) dX6_init_57 (by decide) ?_
  refine sw_newarray (pc := 60) (kd := 1) (a := 30) (n1 := 31) (N := 250) (ce1 := 7) (sl1 := 5333) (v := .long 0) dX6_init_60 rfl wA_long rfl (fun U => sI_Cond_long U _) (by decide) (by decide) rfl (fun _ => rfl) rfl rfl rfl rfl rfl rfl ?_
  refine sw_putfinal (pc := 62) dX6_init_62 (gCX6 _ _ _ _ _) 6 (by decide) wF_X6_31 rfl rfl rfl rfl rfl (fun _ => rfl) (fun _ => rfl) rfl ?_
  refine sv_aload_n (pc := 65) dX6_init_65 rfl rfl ?_
  refine sv_sipush (pc := 66) (v := 250) dX6_init_66 (by decide) ?_
  refine sw_newarray (pc := 69) (kd := 1) (a := 31) (n1 := 32) (N := 250) (ce1 := 8) (sl1 := 5583) (v := .long 0) dX6_init_69 rfl wA_long rfl (fun U => sI_Cond_long U _) (by decide) (by decide) rfl (fun _ => rfl) rfl rfl rfl rfl rfl rfl ?_
  refine sw_putfinal (pc := 71) dX6_init_71 (gCX6 _ _ _ _ _) 7 (by decide) wF_X6_34 rfl rfl rfl rfl rfl (fun _ => rfl) (fun _ => rfl) rfl ?_
  refine sv_vret (pc := 74) dX6_init_74 rfl (le_t rfl) (le_t rfl) ?_
  refine sw_putfinal (pc := 66) dX11_init_66 (gCX11 _ _ _ _ _) 5 (by decide) wF_X11_42 rfl rfl rfl rfl rfl (fun _ => rfl) (fun _ => rfl) rfl ?_
  refine sv_aload_n (pc := 69) dX11_init_69 rfl rfl ?_
  refine sw_new (pc := 70) (a := 32) (n1 := 33) (ce1 := 32) (sl1 := 7006) (fs := zX8) dX11_init_70 (gCX8 _ _ _ _ _) wC_X11_46 wN_X8 wI_X8 zX8_ok rfl rfl rfl rfl rfl rfl ?_
  refine sv_dup (pc := 73) dX11_init_73 rfl ?_
  refine sv_aload_n (pc := 74) dX11_init_74 rfl rfl ?_
  refine sw_getfield (pc := 75) dX11_init_75 (gCX11 _ _ _ _ _) 3 (by decide) wF_X11_26 rfl rfl rfl ?_
  refine sv_aload_n (pc := 78) dX11_init_78 rfl rfl ?_
  refine sw_getfield (pc := 79) dX11_init_79 (gCX11 _ _ _ _ _) 4 (by decide) wF_X11_35 rfl rfl rfl ?_
  refine sv_callI (pc := 82) (M' := mX8_init) (d' := 19) (C' := 43) (S' := 2140) (av := [.ref 6, .ref 21]) ?_ (gOk _ _ _ _ _) dX11_init_82 (tX8_init _ _ _ _ _) rfl rfl wV_X8_init wM_X11_48 ⟨le_t rfl, le_t rfl⟩ ⟨le_t rfl, le_t rfl⟩ rfl (le_t rfl) (fun _ _ h => h)
  refine sC.of rfl (by decide) (le_t rfl) ?_
  refine sv_aload_n (pc := 0) dX8_init_0 rfl rfl ?_
  refine sv_objinit (pc := 1) dX8_init_1 wM_X8_3 wV_obj wK_obj ⟨le_t rfl, le_t rfl⟩ (le_t rfl) ?_
  refine sv_aload_n (pc := 4) dX8_init_4 rfl rfl ?_
  refine sv_aload_n (pc := 5) dX8_init_5 rfl rfl ?_
  refine sw_putfinal (pc := 6) dX8_init_6 (gCX8 _ _ _ _ _) 0 (by decide) wF_X8_9 rfl rfl rfl rfl rfl (fun _ => rfl) (fun _ => rfl) rfl ?_
  refine sv_aload_n (pc := 9) dX8_init_9 rfl rfl ?_
  refine sv_aload_n (pc := 10) dX8_init_10 rfl rfl ?_
  refine sw_putfinal (pc := 11) dX8_init_11 (gCX8 _ _ _ _ _) 1 (by decide) wF_X8_15 rfl rfl rfl rfl rfl (fun _ => rfl) (fun _ => rfl) rfl ?_
  refine sv_aload_n (pc := 14) dX8_init_14 rfl rfl ?_
  refine sv_sipush (pc := 15) (v := 800) dX8_init_15 (by decide) ?_
  refine sw_newarray (pc := 18) (kd := 0) (a := 33) (n1 := 34) (N := 800) (ce1 := 1) (sl1 := 800) (v := .int 0) dX8_init_18 rfl wA_int rfl (fun U => sI_Cond_int U _) (by decide) (by decide) rfl (fun _ => rfl) rfl rfl rfl rfl rfl rfl ?_
  refine sw_putfinal (pc := 20) dX8_init_20 (gCX8 _ _ _ _ _) 2 (by decide) wF_X8_19 rfl rfl rfl rfl rfl (fun _ => rfl) (fun _ => rfl) rfl ?_
  refine sv_aload_n (pc := 23) dX8_init_23 rfl rfl ?_
  refine sv_sipush (pc := 24) (v := 800) dX8_init_24 (by decide) ?_
  refine sw_newarray (pc := 27) (kd := 0) (a := 34) (n1 := 35) (N := 800) (ce1 := 2) (sl1 := 1600) (v := .int 0) dX8_init_27 rfl wA_int rfl (fun U => sI_Cond_int U _) (by decide) (by decide) rfl (fun _ => rfl) rfl rfl rfl rfl rfl rfl ?_
  refine sw_putfinal (pc := 29) dX8_init_29 (gCX8 _ _ _ _ _) 3 (by decide) wF_X8_23 rfl rfl rfl rfl rfl (fun _ => rfl) (fun _ => rfl) rfl ?_
  refine sv_aload_n (pc := 32) dX8_init_32 rfl rfl ?_
  refine sw_getfield (pc := 33) dX8_init_33 (gCX8 _ _ _ _ _) 3 (by decide) wF_X8_23 rfl rfl rfl ?_
  refine sv_iconst (pc := 36) (v := (-1)) dX8_init_36 (by decide) ?_
  refine sv_callS (pc := 37) (c_fillI _ _ _ _ _ (d := 18) (lt_t rfl) rfl (by decide)) (gOk _ _ _ _ _) dX8_init_37 (tJ_fillI _ _ _ _ _) wS_J_fillI wM_X8_26 ⟨le_t rfl, le_t rfl⟩ ⟨le_t rfl, le_t rfl⟩ rfl (le_t rfl) ?_
  rintro _ _ ⟨rfl, rfl⟩
  refine sv_aload_n (pc := 40) dX8_init_40 rfl rfl ?_
  refine sv_bipush (pc := 41) (v := 10) dX8_init_41 (by decide) ?_
  refine sw_anewarray (pc := 43) (kd := 4) (a := 35) (n1 := 36) (N := 10) (ce1 := 3) (sl1 := 1610) dX8_init_43 wC_X8_32 rfl (by decide) (by decide) rfl rfl rfl rfl rfl rfl rfl ?_
  refine sw_putfinal (pc := 46) dX8_init_46 (gCX8 _ _ _ _ _) 4 (by decide) wF_X8_34 rfl rfl rfl rfl rfl (fun _ => rfl) (fun _ => rfl) rfl ?_
  refine sv_iconst (pc := 49) (v := 0) dX8_init_49 (by decide) ?_
  refine sv_istore_n (pc := 50) dX8_init_50 rfl (by decide) ?_
  refine sv_iload_n (pc := 51) dX8_init_51 rfl rfl ?_
  refine sv_bipush (pc := 52) (v := 10) dX8_init_52 (by decide) ?_
  refine sv_icmp_ge (pc := 54) (tgt := 76) dX8_init_54 (by decide) (fun h => absurd h (by decide)) (fun _ => ?_)
  refine sv_aload_n (pc := 57) dX8_init_57 rfl rfl ?_
  refine sw_getfield (pc := 58) dX8_init_58 (gCX8 _ _ _ _ _) 4 (by decide) wF_X8_34 rfl rfl rfl ?_
  refine sv_iload_n (pc := 61) dX8_init_61 rfl rfl ?_
  refine sw_new (pc := 62) (a := 36) (n1 := 37) (ce1 := 4) (sl1 := 1622) (fs := zX7) dX8_init_62 (gCX7 _ _ _ _ _) wC_X8_32 wN_X7 wI_X7 zX7_ok rfl rfl rfl rfl rfl rfl ?_
  refine sv_dup (pc := 65) dX8_init_65 rfl ?_
  refine sv_callI (pc := 66) (M' := mX7_init) (d' := 18) (C' := 2) (S' := 28) (av := []) ?_ (gOk _ _ _ _ _) dX8_init_66 (tX7_init _ _ _ _ _) rfl rfl wV_X7_init wM_X8_38 ⟨le_t rfl, le_t rfl⟩ ⟨le_t rfl, le_t rfl⟩ rfl (le_t rfl) (fun _ _ h => h)
  refine sC.of rfl (by decide) (le_t rfl) ?_
  refine sv_aload_n (pc := 0) dX7_init_0 rfl rfl ?_
  refine sv_objinit (pc := 1) dX7_init_1 wM_X7_3 wV_obj wK_obj ⟨le_t rfl, le_t rfl⟩ (le_t rfl) ?_
  refine sv_aload_n (pc := 4) dX7_init_4 rfl rfl ?_
  refine sv_bipush (pc := 5) (v := 20) dX7_init_5 (by decide) ?_
  refine sw_newarray (pc := 7) (kd := 0) (a := 37) (n1 := 38) (N := 20) (ce1 := 1) (sl1 := 20) (v := .int 0) dX7_init_7 rfl wA_int rfl (fun U => sI_Cond_int U _) (by decide) (by decide) rfl (fun _ => rfl) rfl rfl rfl rfl rfl rfl ?_
  refine sw_putfinal (pc := 9) dX7_init_9 (gCX7 _ _ _ _ _) 0 (by decide) wF_X7_9 rfl rfl rfl rfl rfl (fun _ => rfl) (fun _ => rfl) rfl ?_
  refine sv_aload_n (pc := 12) dX7_init_12 rfl rfl ?_
  refine sv_bipush (pc := 13) (v := 8) dX7_init_13 (by decide) ?_
  refine sw_newarray (pc := 15) (kd := 0) (a := 38) (n1 := 39) (N := 8) (ce1 := 2) (sl1 := 28) (v := .int 0) dX7_init_15 rfl wA_int rfl (fun U => sI_Cond_int U _) (by decide) (by decide) rfl (fun _ => rfl) rfl rfl rfl rfl rfl rfl ?_
  refine sw_putfinal (pc := 17) dX7_init_17 (gCX7 _ _ _ _ _) 1 (by decide) wF_X7_15 rfl rfl rfl rfl rfl (fun _ => rfl) (fun _ => rfl) rfl ?_
  refine sv_aload_n (pc := 20) dX7_init_20 rfl rfl ?_
  refine sv_iconst (pc := 21) (v := (-1)) dX7_init_21 (by decide) ?_
  refine sw_putfield (pc := 22) dX7_init_22 (gCX7 _ _ _ _ _) 9 (by decide) wF_X7_18 rfl rfl rfl (fun _ => rfl) (fun _ => rfl) rfl ?_
  refine sv_vret (pc := 25) dX7_init_25 rfl (le_t rfl) (le_t rfl) ?_
  refine sw_aastore (pc := 69) (k := 0) dX8_init_69 (gCX7 _ _ _ _ _) rfl rfl rfl (by decide) (by decide) rfl rfl rfl ?_
  refine sw_iinc (pc := 70) (v := 1) dX8_init_70 rfl (by decide) (by decide) ?_
  refine sv_goto (pc := 73) (tgt := 51) dX8_init_73 (by decide) ?_
  refine sv_iload_n (pc := 51) dX8_init_51 rfl rfl ?_
  refine sv_bipush (pc := 52) (v := 10) dX8_init_52 (by decide) ?_
  refine sv_icmp_ge (pc := 54) (tgt := 76) dX8_init_54 (by decide) (fun h => absurd h (by decide)) (fun _ => ?_)
  refine sv_aload_n (pc := 57) dX8_init_57 rfl rfl ?_
  refine sw_getfield (pc := 58) dX8_init_58 (gCX8 _ _ _ _ _) 4 (by decide) wF_X8_34 rfl rfl rfl ?_
  refine sv_iload_n (pc := 61) dX8_init_61 rfl rfl ?_
  refine sw_new (pc := 62) (a := 39) (n1 := 40) (ce1 := 7) (sl1 := 1662) (fs := zX7) dX8_init_62 (gCX7 _ _ _ _ _) wC_X8_32 wN_X7 wI_X7 zX7_ok rfl rfl rfl rfl rfl rfl ?_
  refine sv_dup (pc := 65) dX8_init_65 rfl ?_
  refine sv_callI (pc := 66) (M' := mX7_init) (d' := 18) (C' := 2) (S' := 28) (av := []) ?_ (gOk _ _ _ _ _) dX8_init_66 (tX7_init _ _ _ _ _) rfl rfl wV_X7_init wM_X8_38 ⟨le_t rfl, le_t rfl⟩ ⟨le_t rfl, le_t rfl⟩ rfl (le_t rfl) (fun _ _ h => h)
  refine sC.of rfl (by decide) (le_t rfl) ?_
  refine sv_aload_n (pc := 0) dX7_init_0 rfl rfl ?_
  refine sv_objinit (pc := 1) dX7_init_1 wM_X7_3 wV_obj wK_obj ⟨le_t rfl, le_t rfl⟩ (le_t rfl) ?_
  refine sv_aload_n (pc := 4) dX7_init_4 rfl rfl ?_
  refine sv_bipush (pc := 5) (v := 20) dX7_init_5 (by decide) ?_
  refine sw_newarray (pc := 7) (kd := 0) (a := 40) (n1 := 41) (N := 20) (ce1 := 1) (sl1 := 20) (v := .int 0) dX7_init_7 rfl wA_int rfl (fun U => sI_Cond_int U _) (by decide) (by decide) rfl (fun _ => rfl) rfl rfl rfl rfl rfl rfl ?_
  refine sw_putfinal (pc := 9) dX7_init_9 (gCX7 _ _ _ _ _) 0 (by decide) wF_X7_9 rfl rfl rfl rfl rfl (fun _ => rfl) (fun _ => rfl) rfl ?_
  refine sv_aload_n (pc := 12) dX7_init_12 rfl rfl ?_
  refine sv_bipush (pc := 13) (v := 8) dX7_init_13 (by decide) ?_
  refine sw_newarray (pc := 15) (kd := 0) (a := 41) (n1 := 42) (N := 8) (ce1 := 2) (sl1 := 28) (v := .int 0) dX7_init_15 rfl wA_int rfl (fun U => sI_Cond_int U _) (by decide) (by decide) rfl (fun _ => rfl) rfl rfl rfl rfl rfl rfl ?_
  refine sw_putfinal (pc := 17) dX7_init_17 (gCX7 _ _ _ _ _) 1 (by decide) wF_X7_15 rfl rfl rfl rfl rfl (fun _ => rfl) (fun _ => rfl) rfl ?_
  refine sv_aload_n (pc := 20) dX7_init_20 rfl rfl ?_
  refine sv_iconst (pc := 21) (v := (-1)) dX7_init_21 (by decide) ?_
  refine sw_putfield (pc := 22) dX7_init_22 (gCX7 _ _ _ _ _) 9 (by decide) wF_X7_18 rfl rfl rfl (fun _ => rfl) (fun _ => rfl) rfl ?_
  refine sv_vret (pc := 25) dX7_init_25 rfl (le_t rfl) (le_t rfl) ?_
  refine sw_aastore (pc := 69) (k := 1) dX8_init_69 (gCX7 _ _ _ _ _) rfl rfl rfl (by decide) (by decide) rfl rfl rfl ?_
  refine sw_iinc (pc := 70) (v := 2) dX8_init_70 rfl (by decide) (by decide) ?_
  refine sv_goto (pc := 73) (tgt := 51) dX8_init_73 (by decide) ?_
  refine sv_iload_n (pc := 51) dX8_init_51 rfl rfl ?_
  refine sv_bipush (pc := 52) (v := 10) dX8_init_52 (by decide) ?_
  refine sv_icmp_ge (pc := 54) (tgt := 76) dX8_init_54 (by decide) (fun h => absurd h (by decide)) (fun _ => ?_)
  refine sv_aload_n (pc := 57) dX8_init_57 rfl rfl ?_
  refine sw_getfield (pc := 58) dX8_init_58 (gCX8 _ _ _ _ _) 4 (by decide) wF_X8_34 rfl rfl rfl ?_
  refine sv_iload_n (pc := 61) dX8_init_61 rfl rfl ?_
  refine sw_new (pc := 62) (a := 42) (n1 := 43) (ce1 := 10) (sl1 := 1702) (fs := zX7) dX8_init_62 (gCX7 _ _ _ _ _) wC_X8_32 wN_X7 wI_X7 zX7_ok rfl rfl rfl rfl rfl rfl ?_
  refine sv_dup (pc := 65) dX8_init_65 rfl ?_
  refine sv_callI (pc := 66) (M' := mX7_init) (d' := 18) (C' := 2) (S' := 28) (av := []) ?_ (gOk _ _ _ _ _) dX8_init_66 (tX7_init _ _ _ _ _) rfl rfl wV_X7_init wM_X8_38 ⟨le_t rfl, le_t rfl⟩ ⟨le_t rfl, le_t rfl⟩ rfl (le_t rfl) (fun _ _ h => h)
  refine sC.of rfl (by decide) (le_t rfl) ?_
  refine sv_aload_n (pc := 0) dX7_init_0 rfl rfl ?_
  refine sv_objinit (pc := 1) dX7_init_1 wM_X7_3 wV_obj wK_obj ⟨le_t rfl, le_t rfl⟩ (le_t rfl) ?_
  refine sv_aload_n (pc := 4) dX7_init_4 rfl rfl ?_
  refine sv_bipush (pc := 5) (v := 20) dX7_init_5 (by decide) ?_
  refine sw_newarray (pc := 7) (kd := 0) (a := 43) (n1 := 44) (N := 20) (ce1 := 1) (sl1 := 20) (v := .int 0) dX7_init_7 rfl wA_int rfl (fun U => sI_Cond_int U _) (by decide) (by decide) rfl (fun _ => rfl) rfl rfl rfl rfl rfl rfl ?_
  refine sw_putfinal (pc := 9) dX7_init_9 (gCX7 _ _ _ _ _) 0 (by decide) wF_X7_9 rfl rfl rfl rfl rfl (fun _ => rfl) (fun _ => rfl) rfl ?_
  refine sv_aload_n (pc := 12) dX7_init_12 rfl rfl ?_
  refine sv_bipush (pc := 13) (v := 8) dX7_init_13 (by decide) ?_
  refine sw_newarray (pc := 15) (kd := 0) (a := 44) (n1 := 45) (N := 8) (ce1 := 2) (sl1 := 28) (v := .int 0) dX7_init_15 rfl wA_int rfl (fun U => sI_Cond_int U _) (by decide) (by decide) rfl (fun _ => rfl) rfl rfl rfl rfl rfl rfl ?_
  refine sw_putfinal (pc := 17) dX7_init_17 (gCX7 _ _ _ _ _) 1 (by decide) wF_X7_15 rfl rfl rfl rfl rfl (fun _ => rfl) (fun _ => rfl) rfl ?_
  refine sv_aload_n (pc := 20) dX7_init_20 rfl rfl ?_
  refine sv_iconst (pc := 21) (v := (-1)) dX7_init_21 (by decide) ?_
  refine sw_putfield (pc := 22) dX7_init_22 (gCX7 _ _ _ _ _) 9 (by decide) wF_X7_18 rfl rfl rfl (fun _ => rfl) (fun _ => rfl) rfl ?_
  refine sv_vret (pc := 25) dX7_init_25 rfl (le_t rfl) (le_t rfl) ?_
  refine sw_aastore (pc := 69) (k := 2) dX8_init_69 (gCX7 _ _ _ _ _) rfl rfl rfl (by decide) (by decide) rfl rfl rfl ?_
  refine sw_iinc (pc := 70) (v := 3) dX8_init_70 rfl (by decide) (by decide) ?_
  refine sv_goto (pc := 73) (tgt := 51) dX8_init_73 (by decide) ?_
  refine sv_iload_n (pc := 51) dX8_init_51 rfl rfl ?_
  refine sv_bipush (pc := 52) (v := 10) dX8_init_52 (by decide) ?_
  refine sv_icmp_ge (pc := 54) (tgt := 76) dX8_init_54 (by decide) (fun h => absurd h (by decide)) (fun _ => ?_)
  refine sv_aload_n (pc := 57) dX8_init_57 rfl rfl ?_
  refine sw_getfield (pc := 58) dX8_init_58 (gCX8 _ _ _ _ _) 4 (by decide) wF_X8_34 rfl rfl rfl ?_
  refine sv_iload_n (pc := 61) dX8_init_61 rfl rfl ?_
  refine sw_new (pc := 62) (a := 45) (n1 := 46) (ce1 := 13) (sl1 := 1742) (fs := zX7) dX8_init_62 (gCX7 _ _ _ _ _) wC_X8_32 wN_X7 wI_X7 zX7_ok rfl rfl rfl rfl rfl rfl ?_
  refine sv_dup (pc := 65) dX8_init_65 rfl ?_
  refine sv_callI (pc := 66) (M' := mX7_init) (d' := 18) (C' := 2) (S' := 28) (av := []) ?_ (gOk _ _ _ _ _) dX8_init_66 (tX7_init _ _ _ _ _) rfl rfl wV_X7_init wM_X8_38 ⟨le_t rfl, le_t rfl⟩ ⟨le_t rfl, le_t rfl⟩ rfl (le_t rfl) (fun _ _ h => h)
  refine sC.of rfl (by decide) (le_t rfl) ?_
  refine sv_aload_n (pc := 0) dX7_init_0 rfl rfl ?_
  refine sv_objinit (pc := 1) dX7_init_1 wM_X7_3 wV_obj wK_obj ⟨le_t rfl, le_t rfl⟩ (le_t rfl) ?_
  refine sv_aload_n (pc := 4) dX7_init_4 rfl rfl ?_
  refine sv_bipush (pc := 5) (v := 20) dX7_init_5 (by decide) ?_
  refine sw_newarray (pc := 7) (kd := 0) (a := 46) (n1 := 47) (N := 20) (ce1 := 1) (sl1 := 20) (v := .int 0) dX7_init_7 rfl wA_int rfl (fun U => sI_Cond_int U _) (by decide) (by decide) rfl (fun _ => rfl) rfl rfl rfl rfl rfl rfl ?_
  refine sw_putfinal (pc := 9) dX7_init_9 (gCX7 _ _ _ _ _) 0 (by decide) wF_X7_9 rfl rfl rfl rfl rfl (fun _ => rfl) (fun _ => rfl) rfl ?_
  refine sv_aload_n (pc := 12) dX7_init_12 rfl rfl ?_
  refine sv_bipush (pc := 13) (v := 8) dX7_init_13 (by decide) ?_
  refine sw_newarray (pc := 15) (kd := 0) (a := 47) (n1 := 48) (N := 8) (ce1 := 2) (sl1 := 28) (v := .int 0) dX7_init_15 rfl wA_int rfl (fun U => sI_Cond_int U _) (by decide) (by decide) rfl (fun _ => rfl) rfl rfl rfl rfl rfl rfl ?_
  refine sw_putfinal (pc := 17) dX7_init_17 (gCX7 _ _ _ _ _) 1 (by decide) wF_X7_15 rfl rfl rfl rfl rfl (fun _ => rfl) (fun _ => rfl) rfl ?_
  refine sv_aload_n (pc := 20) dX7_init_20 rfl rfl ?_
  refine sv_iconst (pc := 21) (v := (-1)) dX7_init_21 (by decide) ?_
  refine sw_putfield (pc := 22) dX7_init_22 (gCX7 _ _ _ _ _) 9 (by decide) wF_X7_18 rfl rfl rfl (fun _ => rfl) (fun _ => rfl) rfl ?_
  refine sv_vret (pc := 25) dX7_init_25 rfl (le_t rfl) (le_t rfl) ?_
  refine sw_aastore (pc := 69) (k := 3) dX8_init_69 (gCX7 _ _ _ _ _) rfl rfl rfl (by decide) (by decide) rfl rfl rfl ?_
  refine sw_iinc (pc := 70) (v := 4) dX8_init_70 rfl (by decide) (by decide) ?_
  refine sv_goto (pc := 73) (tgt := 51) dX8_init_73 (by decide) ?_
  refine sv_iload_n (pc := 51) dX8_init_51 rfl rfl ?_
  refine sv_bipush (pc := 52) (v := 10) dX8_init_52 (by decide) ?_
  refine sv_icmp_ge (pc := 54) (tgt := 76) dX8_init_54 (by decide) (fun h => absurd h (by decide)) (fun _ => ?_)
  refine sv_aload_n (pc := 57) dX8_init_57 rfl rfl ?_
  refine sw_getfield (pc := 58) dX8_init_58 (gCX8 _ _ _ _ _) 4 (by decide) wF_X8_34 rfl rfl rfl ?_
  refine sv_iload_n (pc := 61) dX8_init_61 rfl rfl ?_
  refine sw_new (pc := 62) (a := 48) (n1 := 49) (ce1 := 16) (sl1 := 1782) (fs := zX7) dX8_init_62 (gCX7 _ _ _ _ _) wC_X8_32 wN_X7 wI_X7 zX7_ok rfl rfl rfl rfl rfl rfl ?_
  refine sv_dup (pc := 65) dX8_init_65 rfl ?_
  refine sv_callI (pc := 66) (M' := mX7_init) (d' := 18) (C' := 2) (S' := 28) (av := []) ?_ (gOk _ _ _ _ _) dX8_init_66 (tX7_init _ _ _ _ _) rfl rfl wV_X7_init wM_X8_38 ⟨le_t rfl, le_t rfl⟩ ⟨le_t rfl, le_t rfl⟩ rfl (le_t rfl) (fun _ _ h => h)
  refine sC.of rfl (by decide) (le_t rfl) ?_
  refine sv_aload_n (pc := 0) dX7_init_0 rfl rfl ?_
  refine sv_objinit (pc := 1) dX7_init_1 wM_X7_3 wV_obj wK_obj ⟨le_t rfl, le_t rfl⟩ (le_t rfl) ?_
  refine sv_aload_n (pc := 4) dX7_init_4 rfl rfl ?_
  refine sv_bipush (pc := 5) (v := 20) dX7_init_5 (by decide) ?_
  refine sw_newarray (pc := 7) (kd := 0) (a := 49) (n1 := 50) (N := 20) (ce1 := 1) (sl1 := 20) (v := .int 0) dX7_init_7 rfl wA_int rfl (fun U => sI_Cond_int U _) (by decide) (by decide) rfl (fun _ => rfl) rfl rfl rfl rfl rfl rfl ?_
  refine sw_putfinal (pc := 9) dX7_init_9 (gCX7 _ _ _ _ _) 0 (by decide) wF_X7_9 rfl rfl rfl rfl rfl (fun _ => rfl) (fun _ => rfl) rfl ?_
  refine sv_aload_n (pc := 12) dX7_init_12 rfl rfl ?_
  refine sv_bipush (pc := 13) (v := 8) dX7_init_13 (by decide) ?_
  refine sw_newarray (pc := 15) (kd := 0) (a := 50) (n1 := 51) (N := 8) (ce1 := 2) (sl1 := 28) (v := .int 0) dX7_init_15 rfl wA_int rfl (fun U => sI_Cond_int U _) (by decide) (by decide) rfl (fun _ => rfl) rfl rfl rfl rfl rfl rfl ?_
  refine sw_putfinal (pc := 17) dX7_init_17 (gCX7 _ _ _ _ _) 1 (by decide) wF_X7_15 rfl rfl rfl rfl rfl (fun _ => rfl) (fun _ => rfl) rfl ?_
  refine sv_aload_n (pc := 20) dX7_init_20 rfl rfl ?_
  refine sv_iconst (pc := 21) (v := (-1)) dX7_init_21 (by decide) ?_
  refine sw_putfield (pc := 22) dX7_init_22 (gCX7 _ _ _ _ _) 9 (by decide) wF_X7_18 rfl rfl rfl (fun _ => rfl) (fun _ => rfl) rfl ?_
  refine sv_vret (pc := 25) dX7_init_25 rfl (le_t rfl) (le_t rfl) ?_
  refine sw_aastore (pc := 69) (k := 4) dX8_init_69 (gCX7 _ _ _ _ _) rfl rfl rfl (by decide) (by decide) rfl rfl rfl ?_
  refine sw_iinc (pc := 70) (v := 5) dX8_init_70 rfl (by decide) (by decide) ?_
  refine sv_goto (pc := 73) (tgt := 51) dX8_init_73 (by decide) ?_
  refine sv_iload_n (pc := 51) dX8_init_51 rfl rfl ?_
  refine sv_bipush (pc := 52) (v := 10) dX8_init_52 (by decide) ?_
  refine sv_icmp_ge (pc := 54) (tgt := 76) dX8_init_54 (by decide) (fun h => absurd h (by decide)) (fun _ => ?_)
  refine sv_aload_n (pc := 57) dX8_init_57 rfl rfl ?_
  refine sw_getfield (pc := 58) dX8_init_58 (gCX8 _ _ _ _ _) 4 (by decide) wF_X8_34 rfl rfl rfl ?_
  refine sv_iload_n (pc := 61) dX8_init_61 rfl rfl ?_
  refine sw_new (pc := 62) (a := 51) (n1 := 52) (ce1 := 19) (sl1 := 1822) (fs := zX7) dX8_init_62 (gCX7 _ _ _ _ _) wC_X8_32 wN_X7 wI_X7 zX7_ok rfl rfl rfl rfl rfl rfl ?_
  refine sv_dup (pc := 65) dX8_init_65 rfl ?_
  refine sv_callI (pc := 66) (M' := mX7_init) (d' := 18) (C' := 2) (S' := 28) (av := []) ?_ (gOk _ _ _ _ _) dX8_init_66 (tX7_init _ _ _ _ _) rfl rfl wV_X7_init wM_X8_38 ⟨le_t rfl, le_t rfl⟩ ⟨le_t rfl, le_t rfl⟩ rfl (le_t rfl) (fun _ _ h => h)
  refine sC.of rfl (by decide) (le_t rfl) ?_
  refine sv_aload_n (pc := 0) dX7_init_0 rfl rfl ?_
  refine sv_objinit (pc := 1) dX7_init_1 wM_X7_3 wV_obj wK_obj ⟨le_t rfl, le_t rfl⟩ (le_t rfl) ?_
  refine sv_aload_n (pc := 4) dX7_init_4 rfl rfl ?_
  refine sv_bipush (pc := 5) (v := 20) dX7_init_5 (by decide) ?_
  refine sw_newarray (pc := 7) (kd := 0) (a := 52) (n1 := 53) (N := 20) (ce1 := 1) (sl1 := 20) (v := .int 0) dX7_init_7 rfl wA_int rfl (fun U => sI_Cond_int U _) (by decide) (by decide) rfl (fun _ => rfl) rfl rfl rfl rfl rfl rfl ?_
  refine sw_putfinal (pc := 9) dX7_init_9 (gCX7 _ _ _ _ _) 0 (by decide) wF_X7_9 rfl rfl rfl rfl rfl (fun _ => rfl) (fun _ => rfl) rfl ?_
  refine sv_aload_n (pc := 12) dX7_init_12 rfl rfl ?_
  refine sv_bipush (pc := 13) (v := 8) dX7_init_13 (by decide) ?_
  refine sw_newarray (pc := 15) (kd := 0) (a := 53) (n1 := 54) (N := 8) (ce1 := 2) (sl1 := 28) (v := .int 0) dX7_init_15 rfl wA_int rfl (fun U => sI_Cond_int U _) (by decide) (by decide) rfl (fun _ => rfl) rfl rfl rfl rfl rfl rfl ?_
  refine sw_putfinal (pc := 17) dX7_init_17 (gCX7 _ _ _ _ _) 1 (by decide) wF_X7_15 rfl rfl rfl rfl rfl (fun _ => rfl) (fun _ => rfl) rfl ?_
  refine sv_aload_n (pc := 20) dX7_init_20 rfl rfl ?_
  refine sv_iconst (pc := 21) (v := (-1)) dX7_init_21 (by decide) ?_
  refine sw_putfield (pc := 22) dX7_init_22 (gCX7 _ _ _ _ _) 9 (by decide) wF_X7_18 rfl rfl rfl (fun _ => rfl) (fun _ => rfl) rfl ?_
  refine sv_vret (pc := 25) dX7_init_25 rfl (le_t rfl) (le_t rfl) ?_
  refine sw_aastore (pc := 69) (k := 5) dX8_init_69 (gCX7 _ _ _ _ _) rfl rfl rfl (by decide) (by decide) rfl rfl rfl ?_
  refine sw_iinc (pc := 70) (v := 6) dX8_init_70 rfl (by decide) (by decide) ?_
  refine sv_goto (pc := 73) (tgt := 51) dX8_init_73 (by decide) ?_
  refine sv_iload_n (pc := 51) dX8_init_51 rfl rfl ?_
  refine sv_bipush (pc := 52) (v := 10) dX8_init_52 (by decide) ?_
  refine sv_icmp_ge (pc := 54) (tgt := 76) dX8_init_54 (by decide) (fun h => absurd h (by decide)) (fun _ => ?_)
  refine sv_aload_n (pc := 57) dX8_init_57 rfl rfl ?_
  refine sw_getfield (pc := 58) dX8_init_58 (gCX8 _ _ _ _ _) 4 (by decide) wF_X8_34 rfl rfl rfl ?_
  refine sv_iload_n (pc := 61) dX8_init_61 rfl rfl ?_
  refine sw_new (pc := 62) (a := 54) (n1 := 55) (ce1 := 22) (sl1 := 1862) (fs := zX7) dX8_init_62 (gCX7 _ _ _ _ _) wC_X8_32 wN_X7 wI_X7 zX7_ok rfl rfl rfl rfl rfl rfl ?_
  refine sv_dup (pc := 65) dX8_init_65 rfl ?_
  refine sv_callI (pc := 66) (M' := mX7_init) (d' := 18) (C' := 2) (S' := 28) (av := []) ?_ (gOk _ _ _ _ _) dX8_init_66 (tX7_init _ _ _ _ _) rfl rfl wV_X7_init wM_X8_38 ⟨le_t rfl, le_t rfl⟩ ⟨le_t rfl, le_t rfl⟩ rfl (le_t rfl) (fun _ _ h => h)
  refine sC.of rfl (by decide) (le_t rfl) ?_
  refine sv_aload_n (pc := 0) dX7_init_0 rfl rfl ?_
  refine sv_objinit (pc := 1) dX7_init_1 wM_X7_3 wV_obj wK_obj ⟨le_t rfl, le_t rfl⟩ (le_t rfl) ?_
  refine sv_aload_n (pc := 4) dX7_init_4 rfl rfl ?_
  refine sv_bipush (pc := 5) (v := 20) dX7_init_5 (by decide) ?_
  refine sw_newarray (pc := 7) (kd := 0) (a := 55) (n1 := 56) (N := 20) (ce1 := 1) (sl1 := 20) (v := .int 0) dX7_init_7 rfl wA_int rfl (fun U => sI_Cond_int U _) (by decide) (by decide) rfl (fun _ => rfl) rfl rfl rfl rfl rfl rfl ?_
  refine sw_putfinal (pc := 9) dX7_init_9 (gCX7 _ _ _ _ _) 0 (by decide) wF_X7_9 rfl rfl rfl rfl rfl (fun _ => rfl) (fun _ => rfl) rfl ?_
  refine sv_aload_n (pc := 12) dX7_init_12 rfl rfl ?_
  refine sv_bipush (pc := 13) (v := 8) dX7_init_13 (by decide) ?_
  refine sw_newarray (pc := 15) (kd := 0) (a := 56) (n1 := 57) (N := 8) (ce1 := 2) (sl1 := 28) (v := .int 0) dX7_init_15 rfl wA_int rfl (fun U => sI_Cond_int U _) (by decide) (by decide) rfl (fun _ => rfl) rfl rfl rfl rfl rfl rfl ?_
  refine sw_putfinal (pc := 17) dX7_init_17 (gCX7 _ _ _ _ _) 1 (by decide) wF_X7_15 rfl rfl rfl rfl rfl (fun _ => rfl) (fun _ => rfl) rfl ?_
  refine sv_aload_n (pc := 20) dX7_init_20 rfl rfl ?_
  refine sv_iconst (pc := 21) (v := (-1)) dX7_init_21 (by decide) ?_
  refine sw_putfield (pc := 22) dX7_init_22 (gCX7 _ _ _ _ _) 9 (by decide) wF_X7_18 rfl rfl rfl (fun _ => rfl) (fun _ => rfl) rfl ?_
  refine sv_vret (pc := 25) dX7_init_25 rfl (le_t rfl) (le_t rfl) ?_
  refine sw_aastore (pc := 69) (k := 6) dX8_init_69 (gCX7 _ _ _ _ _) rfl rfl rfl (by decide) (by decide) rfl rfl rfl ?_
  refine sw_iinc (pc := 70) (v := 7) dX8_init_70 rfl (by decide) (by decide) ?_
  refine sv_goto (pc := 73) (tgt := 51) dX8_init_73 (by decide) ?_
  refine sv_iload_n (pc := 51) dX8_init_51 rfl rfl ?_
  refine sv_bipush (pc := 52) (v := 10) dX8_init_52 (by decide) ?_
  refine sv_icmp_ge (pc := 54) (tgt := 76) dX8_init_54 (by decide) (fun h => absurd h (by decide)) (fun _ => ?_)
  refine sv_aload_n (pc := 57) dX8_init_57 rfl rfl ?_
  refine sw_getfield (pc := 58) dX8_init_58 (gCX8 _ _ _ _ _) 4 (by decide) wF_X8_34 rfl rfl rfl ?_
  refine sv_iload_n (pc := 61) dX8_init_61 rfl rfl ?_
  refine sw_new (pc := 62) (a := 57) (n1 := 58) (ce1 := 25) (sl1 := 1902) (fs := zX7) dX8_init_62 (gCX7 _ _ _ _ _) wC_X8_32 wN_X7 wI_X7 zX7_ok rfl rfl rfl rfl rfl rfl ?_
  refine sv_dup (pc := 65) dX8_init_65 rfl ?_
  refine sv_callI (pc := 66) (M' := mX7_init) (d' := 18) (C' := 2) (S' := 28) (av := []) ?_ (gOk _ _ _ _ _) dX8_init_66 (tX7_init _ _ _ _ _) rfl rfl wV_X7_init wM_X8_38 ⟨le_t rfl, le_t rfl⟩ ⟨le_t rfl, le_t rfl⟩ rfl (le_t rfl) (fun _ _ h => h)
  refine sC.of rfl (by decide) (le_t rfl) ?_
  refine sv_aload_n (pc := 0) dX7_init_0 rfl rfl ?_
  refine sv_objinit (pc := 1) dX7_init_1 wM_X7_3 wV_obj wK_obj ⟨le_t rfl, le_t rfl⟩ (le_t rfl) ?_
  refine sv_aload_n (pc := 4) dX7_init_4 rfl rfl ?_
  refine sv_bipush (pc := 5) (v := 20) dX7_init_5 (by decide) ?_
  refine sw_newarray (pc := 7) (kd := 0) (a := 58) (n1 := 59) (N := 20) (ce1 := 1) (sl1 := 20) (v := .int 0) dX7_init_7 rfl wA_int rfl (fun U => sI_Cond_int U _) (by decide) (by decide) rfl (fun _ => rfl) rfl rfl rfl rfl rfl rfl ?_
  refine sw_putfinal (pc := 9) dX7_init_9 (gCX7 _ _ _ _ _) 0 (by decide) wF_X7_9 rfl rfl rfl rfl rfl (fun _ => rfl) (fun _ => rfl) rfl ?_
  refine sv_aload_n (pc := 12) dX7_init_12 rfl rfl ?_
  refine sv_bipush (pc := 13) (v := 8) dX7_init_13 (by decide) ?_
  refine sw_newarray (pc := 15) (kd := 0) (a := 59) (n1 := 60) (N := 8) (ce1 := 2) (sl1 := 28) (v := .int 0) dX7_init_15 rfl wA_int rfl (fun U => sI_Cond_int U _) (by decide) (by decide) rfl (fun _ => rfl) rfl rfl rfl rfl rfl rfl ?_
  refine sw_putfinal (pc := 17) dX7_init_17 (gCX7 _ _ _ _ _) 1 (by decide) wF_X7_15 rfl rfl rfl rfl rfl (fun _ => rfl) (fun _ => rfl) rfl ?_
  refine sv_aload_n (pc := 20) dX7_init_20 rfl rfl ?_
  refine sv_iconst (pc := 21) (v := (-1)) dX7_init_21 (by decide) ?_
  refine sw_putfield (pc := 22) dX7_init_22 (gCX7 _ _ _ _ _) 9 (by decide) wF_X7_18 rfl rfl rfl (fun _ => rfl) (fun _ => rfl) rfl ?_
  refine sv_vret (pc := 25) dX7_init_25 rfl (le_t rfl) (le_t rfl) ?_
  refine sw_aastore (pc := 69) (k := 7) dX8_init_69 (gCX7 _ _ _ _ _) rfl rfl rfl (by decide) (by decide) rfl rfl rfl ?_
  refine sw_iinc (pc := 70) (v := 8) dX8_init_70 rfl (by decide) (by decide) ?_
  refine sv_goto (pc := 73) (tgt := 51) dX8_init_73 (by decide) ?_
  refine sv_iload_n (pc := 51) dX8_init_51 rfl rfl ?_
  refine sv_bipush (pc := 52) (v := 10) dX8_init_52 (by decide) ?_
  refine sv_icmp_ge (pc := 54) (tgt := 76) dX8_init_54 (by decide) (fun h => absurd h (by decide)) (fun _ => ?_)
  refine sv_aload_n (pc := 57) dX8_init_57 rfl rfl ?_
  refine sw_getfield (pc := 58) dX8_init_58 (gCX8 _ _ _ _ _) 4 (by decide) wF_X8_34 rfl rfl rfl ?_
  refine sv_iload_n (pc := 61) dX8_init_61 rfl rfl ?_
  refine sw_new (pc := 62) (a := 60) (n1 := 61) (ce1 := 28) (sl1 := 1942) (fs := zX7) dX8_init_62 (gCX7 _ _ _ _ _) wC_X8_32 wN_X7 wI_X7 zX7_ok rfl rfl rfl rfl rfl rfl ?_
  refine sv_dup (pc := 65) dX8_init_65 rfl ?_
  refine sv_callI (pc := 66) (M' := mX7_init) (d' := 18) (C' := 2) (S' := 28) (av := []) ?_ (gOk _ _ _ _ _) dX8_init_66 (tX7_init _ _ _ _ _) rfl rfl wV_X7_init wM_X8_38 ⟨le_t rfl, le_t rfl⟩ ⟨le_t rfl, le_t rfl⟩ rfl (le_t rfl) (fun _ _ h => h)
  refine sC.of rfl (by decide) (le_t rfl) ?_
  refine sv_aload_n (pc := 0) dX7_init_0 rfl rfl ?_
  refine sv_objinit (pc := 1) dX7_init_1 wM_X7_3 wV_obj wK_obj ⟨le_t rfl, le_t rfl⟩ (le_t rfl) ?_
  refine sv_aload_n (pc := 4) dX7_init_4 rfl rfl ?_
  refine sv_bipush (pc := 5) (v := 20) dX7_init_5 (by decide) ?_
  refine sw_newarray (pc := 7) (kd := 0) (a := 61) (n1 := 62) (N := 20) (ce1 := 1) (sl1 := 20) (v := .int 0) dX7_init_7 rfl wA_int rfl (fun U => sI_Cond_int U _) (by decide) (by decide) rfl (fun _ => rfl) rfl rfl rfl rfl rfl rfl ?_
  refine sw_putfinal (pc := 9) dX7_init_9 (gCX7 _ _ _ _ _) 0 (by decide) wF_X7_9 rfl rfl rfl rfl rfl (fun _ => rfl) (fun _ => rfl) rfl ?_
  refine sv_aload_n (pc := 12) dX7_init_12 rfl rfl ?_
  refine sv_bipush (pc := 13) (v := 8) dX7_init_13 (by decide) ?_
  refine sw_newarray (pc := 15) (kd := 0) (a := 62) (n1 := 63) (N := 8) (ce1 := 2) (sl1 := 28) (v := .int 0) dX7_init_15 rfl wA_int rfl (fun U => sI_Cond_int U _) (by decide) (by decide) rfl (fun _ => rfl) rfl rfl rfl rfl rfl rfl ?_
  refine sw_putfinal (pc := 17) dX7_init_17 (gCX7 _ _ _ _ _) 1 (by decide) wF_X7_15 rfl rfl rfl rfl rfl (fun _ => rfl) (fun _ => rfl) rfl ?_
  refine sv_aload_n (pc := 20) dX7_init_20 rfl rfl ?_
  refine sv_iconst (pc := 21) (v := (-1)) dX7_init_21 (by decide) ?_
  refine sw_putfield (pc := 22) dX7_init_22 (gCX7 _ _ _ _ _) 9 (by decide) wF_X7_18 rfl rfl rfl (fun _ => rfl) (fun _ => rfl) rfl ?_
  refine sv_vret (pc := 25) dX7_init_25 rfl (le_t rfl) (le_t rfl) ?_
  refine sw_aastore (pc := 69) (k := 8) dX8_init_69 (gCX7 _ _ _ _ _) rfl rfl rfl (by decide) (by decide) rfl rfl rfl ?_
  refine sw_iinc (pc := 70) (v := 9) dX8_init_70 rfl (by decide) (by decide) ?_
  refine sv_goto (pc := 73) (tgt := 51) dX8_init_73 (by decide) ?_
  refine sv_iload_n (pc := 51) dX8_init_51 rfl rfl ?_
  refine sv_bipush (pc := 52) (v := 10) dX8_init_52 (by decide) ?_
  refine sv_icmp_ge (pc := 54) (tgt := 76) dX8_init_54 (by decide) (fun h => absurd h (by decide)) (fun _ => ?_)
  refine sv_aload_n (pc := 57) dX8_init_57 rfl rfl ?_
  refine sw_getfield (pc := 58) dX8_init_58 (gCX8 _ _ _ _ _) 4 (by decide) wF_X8_34 rfl rfl rfl ?_
  refine sv_iload_n (pc := 61) dX8_init_61 rfl rfl ?_
  refine sw_new (pc := 62) (a := 63) (n1 := 64) (ce1 := 31) (sl1 := 1982) (fs := zX7) dX8_init_62 (gCX7 _ _ _ _ _) wC_X8_32 wN_X7 wI_X7 zX7_ok rfl rfl rfl rfl rfl rfl ?_
  refine sv_dup (pc := 65) dX8_init_65 rfl ?_
  refine sv_callI (pc := 66) (M' := mX7_init) (d' := 18) (C' := 2) (S' := 28) (av := []) ?_ (gOk _ _ _ _ _) dX8_init_66 (tX7_init _ _ _ _ _) rfl rfl wV_X7_init wM_X8_38 ⟨le_t rfl, le_t rfl⟩ ⟨le_t rfl, le_t rfl⟩ rfl (le_t rfl) (fun _ _ h => h)
  refine sC.of rfl (by decide) (le_t rfl) ?_
  refine sv_aload_n (pc := 0) dX7_init_0 rfl rfl ?_
  refine sv_objinit (pc := 1) dX7_init_1 wM_X7_3 wV_obj wK_obj ⟨le_t rfl, le_t rfl⟩ (le_t rfl) ?_
  refine sv_aload_n (pc := 4) dX7_init_4 rfl rfl ?_
  refine sv_bipush (pc := 5) (v := 20) dX7_init_5 (by decide) ?_
  refine sw_newarray (pc := 7) (kd := 0) (a := 64) (n1 := 65) (N := 20) (ce1 := 1) (sl1 := 20) (v := .int 0) dX7_init_7 rfl wA_int rfl (fun U => sI_Cond_int U _) (by decide) (by decide) rfl (fun _ => rfl) rfl rfl rfl rfl rfl rfl ?_
  refine sw_putfinal (pc := 9) dX7_init_9 (gCX7 _ _ _ _ _) 0 (by decide) wF_X7_9 rfl rfl rfl rfl rfl (fun _ => rfl) (fun _ => rfl) rfl ?_
  refine sv_aload_n (pc := 12) dX7_init_12 rfl rfl ?_
  refine sv_bipush (pc := 13) (v := 8) dX7_init_13 (by decide) ?_
  refine sw_newarray (pc := 15) (kd := 0) (a := 65) (n1 := 66) (N := 8) (ce1 := 2) (sl1 := 28) (v := .int 0) dX7_init_15 rfl wA_int rfl (fun U => sI_Cond_int U _) (by decide) (by decide) rfl (fun _ => rfl) rfl rfl rfl rfl rfl rfl ?_
  refine sw_putfinal (pc := 17) dX7_init_17 (gCX7 _ _ _ _ _) 1 (by decide) wF_X7_15 rfl rfl rfl rfl rfl (fun _ => rfl) (fun _ => rfl) rfl ?_
  refine sv_aload_n (pc := 20) dX7_init_20 rfl rfl ?_
  refine sv_iconst (pc := 21) (v := (-1)) dX7_init_21 (by decide) ?_
  refine sw_putfield (pc := 22) dX7_init_22 (gCX7 _ _ _ _ _) 9 (by decide) wF_X7_18 rfl rfl rfl (fun _ => rfl) (fun _ => rfl) rfl ?_
  refine sv_vret (pc := 25) dX7_init_25 rfl (le_t rfl) (le_t rfl) ?_
  refine sw_aastore (pc := 69) (k := 9) dX8_init_69 (gCX7 _ _ _ _ _) rfl rfl rfl (by decide) (by decide) rfl rfl rfl ?_
  refine sw_iinc (pc := 70) (v := 10) dX8_init_70 rfl (by decide) (by decide) ?_
  refine sv_goto (pc := 73) (tgt := 51) dX8_init_73 (by decide) ?_
  refine sv_iload_n (pc := 51) dX8_init_51 rfl rfl ?_
  refine sv_bipush (pc := 52) (v := 10) dX8_init_52 (by decide) ?_
  refine sv_icmp_ge (pc := 54) (tgt := 76) dX8_init_54 (by decide) (fun _ => ?_) (fun h => absurd (by decide) h)
  refine sv_aload_n (pc := 76) dX8_init_76 rfl rfl ?_
  refine sv_bipush (pc := 77) (v := 10) dX8_init_77 (by decide) ?_
  refine sw_newarray (pc := 79) (kd := 0) (a := 66) (n1 := 67) (N := 10) (ce1 := 34) (sl1 := 2020) (v := .int 0) dX8_init_79 rfl wA_int rfl (fun U => sI_Cond_int U _) (by decide) (by decide) rfl (fun _ => rfl) rfl rfl rfl rfl rfl rfl ?_
  refine sw_putfinal (pc := 81) dX8_init_81 (gCX8 _ _ _ _ _) 5 (by decide) wF_X8_39 rfl rfl rfl rfl rfl (fun _ => rfl) (fun _ => rfl) rfl ?_
  refine sv_aload_n (pc := 84) dX8_init_84 rfl rfl ?_
  refine sw_new (pc := 85) (a := 67) (n1 := 68) (ce1 := 35) (sl1 := 2032) (fs := zX7) dX8_init_85 (gCX7 _ _ _ _ _) wC_X8_32 wN_X7 wI_X7 zX7_ok rfl rfl rfl rfl rfl rfl ?_
  refine sv_dup (pc := 88) dX8_init_88 rfl ?_
  refine sv_callI (pc := 89) (M' := mX7_init) (d' := 18) (C' := 2) (S' := 28) (av := []) ?_ (gOk _ _ _ _ _) dX8_init_89 (tX7_init _ _ _ _ _) rfl rfl wV_X7_init wM_X8_38 ⟨le_t rfl, le_t rfl⟩ ⟨le_t rfl, le_t rfl⟩ rfl (le_t rfl) (fun _ _ h => h)
  refine sC.of rfl (by decide) (le_t rfl) ?_
  refine sv_aload_n (pc := 0) dX7_init_0 rfl rfl ?_
  refine sv_objinit (pc := 1) dX7_init_1 wM_X7_3 wV_obj wK_obj ⟨le_t rfl, le_t rfl⟩ (le_t rfl) ?_
  refine sv_aload_n (pc := 4) dX7_init_4 rfl rfl ?_
  refine sv_bipush (pc := 5) (v := 20) dX7_init_5 (by decide) ?_
  refine sw_newarray (pc := 7) (kd := 0) (a := 68) (n1 := 69) (N := 20) (ce1 := 1) (sl1 := 20) (v := .int 0) dX7_init_7 rfl wA_int rfl (fun U => sI_Cond_int U _) (by decide) (by decide) rfl (fun _ => rfl) rfl rfl rfl rfl rfl rfl ?_
  refine sw_putfinal (pc := 9) dX7_init_9 (gCX7 _ _ _ _ _) 0 (by decide) wF_X7_9 rfl rfl rfl rfl rfl (fun _ => rfl) (fun _ => rfl) rfl ?_
  refine sv_aload_n (pc := 12) dX7_init_12 rfl rfl ?_
  refine sv_bipush (pc := 13) (v := 8) dX7_init_13 (by decide) ?_
  refine sw_newarray (pc := 15) (kd := 0) (a := 69) (n1 := 70) (N := 8) (ce1 := 2) (sl1 := 28) (v := .int 0) dX7_init_15 rfl wA_int rfl (fun U => sI_Cond_int U _) (by decide) (by decide) rfl (fun _ => rfl) rfl rfl rfl rfl rfl rfl ?_
  refine sw_putfinal (pc := 17) dX7_init_17 (gCX7 _ _ _ _ _) 1 (by decide) wF_X7_15 rfl rfl rfl rfl rfl (fun _ => rfl) (fun _ => rfl) rfl ?_
  refine sv_aload_n (pc := 20) dX7_init_20 rfl rfl ?_
  refine sv_iconst (pc := 21) (v := (-1)) dX7_init_21 (by decide) ?_
  refine sw_putfield (pc := 22) dX7_init_22 (gCX7 _ _ _ _ _) 9 (by decide) wF_X7_18 rfl rfl rfl (fun _ => rfl) (fun _ => rfl) rfl ?_
  refine sv_vret (pc := 25) dX7_init_25 rfl (le_t rfl) (le_t rfl) ?_
  refine sw_putfinal (pc := 92) dX8_init_92 (gCX8 _ _ _ _ _) 6 (by decide) wF_X8_42 rfl rfl rfl rfl rfl (fun _ => rfl) (fun _ => rfl) rfl ?_
  refine sv_aload_n (pc := 95) dX8_init_95 rfl rfl ?_
  refine sw_new (pc := 96) (a := 70) (n1 := 71) (ce1 := 38) (sl1 := 2072) (fs := zX7) dX8_init_96 (gCX7 _ _ _ _ _) wC_X8_32 wN_X7 wI_X7 zX7_ok rfl rfl rfl rfl rfl rfl ?_
  refine sv_dup (pc := 99) dX8_init_99 rfl ?_
  refine sv_callI (pc := 100) (M' := mX7_init) (d' := 18) (C' := 2) (S' := 28) (av := []) ?_ (gOk _ _ _ _ _) dX8_init_100 (tX7_init _ _ _ _ _) rfl rfl wV_X7_init wM_X8_38 ⟨le_t rfl, le_t rfl⟩ ⟨le_t rfl, le_t rfl⟩ rfl (le_t rfl) (fun _ _ h => h)
  refine sC.of rfl (by decide) (le_t rfl) ?_
  refine sv_aload_n (pc := 0) dX7_init_0 rfl rfl ?_
  refine sv_objinit (pc := 1) dX7_init_1 wM_X7_3 wV_obj wK_obj ⟨le_t rfl, le_t rfl⟩ (le_t rfl) ?_
  refine sv_aload_n (pc := 4) dX7_init_4 rfl rfl ?_
  refine sv_bipush (pc := 5) (v := 20) dX7_init_5 (by decide) ?_
  refine sw_newarray (pc := 7) (kd := 0) (a := 71) (n1 := 72) (N := 20) (ce1 := 1) (sl1 := 20) (v := .int 0) dX7_init_7 rfl wA_int rfl (fun U => sI_Cond_int U _) (by decide) (by decide) rfl (fun _ => rfl) rfl rfl rfl rfl rfl rfl ?_
  refine sw_putfinal (pc := 9) dX7_init_9 (gCX7 _ _ _ _ _) 0 (by decide) wF_X7_9 rfl rfl rfl rfl rfl (fun _ => rfl) (fun _ => rfl) rfl ?_
  refine sv_aload_n (pc := 12) dX7_init_12 rfl rfl ?_
  refine sv_bipush (pc := 13) (v := 8) dX7_init_13 (by decide) ?_
  refine sw_newarray (pc := 15) (kd := 0) (a := 72) (n1 := 73) (N := 8) (ce1 := 2) (sl1 := 28) (v := .int 0) dX7_init_15 rfl wA_int rfl (fun U => sI_Cond_int U _) (by decide) (by decide) rfl (fun _ => rfl) rfl rfl rfl rfl rfl rfl ?_
  refine sw_putfinal (pc := 17) dX7_init_17 (gCX7 _ _ _ _ _) 1 (by decide) wF_X7_15 rfl rfl rfl rfl rfl (fun _ => rfl) (fun _ => rfl) rfl ?_
  refine sv_aload_n (pc := 20) dX7_init_20 rfl rfl ?_
  refine sv_iconst (pc := 21) (v := (-1)) dX7_init_21 (by decide) ?_
  refine sw_putfield (pc := 22) dX7_init_22 (gCX7 _ _ _ _ _) 9 (by decide) wF_X7_18 rfl rfl rfl (fun _ => rfl) (fun _ => rfl) rfl ?_
  refine sv_vret (pc := 25) dX7_init_25 rfl (le_t rfl) (le_t rfl) ?_
  refine sw_putfinal (pc := 103) dX8_init_103 (gCX8 _ _ _ _ _) 7 (by decide) wF_X8_46 rfl rfl rfl rfl rfl (fun _ => rfl) (fun _ => rfl) rfl ?_
  refine sv_aload_n (pc := 106) dX8_init_106 rfl rfl ?_
  refine sw_new (pc := 107) (a := 73) (n1 := 74) (ce1 := 41) (sl1 := 2112) (fs := zX7) dX8_init_107 (gCX7 _ _ _ _ _) wC_X8_32 wN_X7 wI_X7 zX7_ok rfl rfl rfl rfl rfl rfl ?_
  refine sv_dup (pc := 110) dX8_init_110 rfl ?_
  refine sv_callI (pc := 111) (M' := mX7_init) (d' := 18) (C' := 2) (S' := 28) (av := []) ?_ (gOk _ _ _ _ _) dX8_init_111 (tX7_init _ _ _ _ _) rfl rfl wV_X7_init wM_X8_38 ⟨le_t rfl, le_t rfl⟩ ⟨le_t rfl, le_t rfl⟩ rfl (le_t rfl) (fun _ _ h => h)
  refine sC.of rfl (by decide) (le_t rfl) ?_
  refine sv_aload_n (pc := 0) dX7_init_0 rfl rfl ?_
  refine sv_objinit (pc := 1) dX7_init_1 wM_X7_3 wV_obj wK_obj ⟨le_t rfl, le_t rfl⟩ (le_t rfl) ?_
  refine sv_aload_n (pc := 4) dX7_init_4 rfl rfl ?_
  refine sv_bipush (pc := 5) (v := 20) dX7_init_5 (by decide) ?_
  refine sw_newarray (pc := 7) (kd := 0) (a := 74) (n1 := 75) (N := 20) (ce1 := 1) (sl1 := 20) (v := .int 0) dX7_init_7 rfl wA_int rfl (fun U => sI_Cond_int U _) (by decide) (by decide) rfl (fun _ => rfl) rfl rfl rfl rfl rfl rfl ?_
  refine sw_putfinal (pc := 9) dX7_init_9 (gCX7 _ _ _ _ _) 0 (by decide) wF_X7_9 rfl rfl rfl rfl rfl (fun _ => rfl) (fun _ => rfl) rfl ?_
  refine sv_aload_n (pc := 12) dX7_init_12 rfl rfl ?_
  refine sv_bipush (pc := 13) (v := 8) dX7_init_13 (by decide) ?_
  refine sw_newarray (pc := 15) (kd := 0) (a := 75) (n1 := 76) (N := 8) (ce1 := 2) (sl1 := 28) (v := .int 0) dX7_init_15 rfl wA_int rfl (fun U => sI_Cond_int U _) (by decide) (by decide) rfl (fun _ => rfl) rfl rfl rfl rfl rfl rfl ?_
  refine sw_putfinal (pc := 17) dX7_init_17 (gCX7 _ _ _ _ _) 1 (by decide) wF_X7_15 rfl rfl rfl rfl rfl (fun _ => rfl) (fun _ => rfl) rfl ?_
  refine sv_aload_n (pc := 20) dX7_init_20 rfl rfl ?_
  refine sv_iconst (pc := 21) (v := (-1)) dX7_init_21 (by decide) ?_
  refine sw_putfield (pc := 22) dX7_init_22 (gCX7 _ _ _ _ _) 9 (by decide) wF_X7_18 rfl rfl rfl (fun _ => rfl) (fun _ => rfl) rfl ?_
  refine sv_vret (pc := 25) dX7_init_25 rfl (le_t rfl) (le_t rfl) ?_
  refine sw_putfinal (pc := 114) dX8_init_114 (gCX8 _ _ _ _ _) 8 (by decide) wF_X8_49 rfl rfl rfl rfl rfl (fun _ => rfl) (fun _ => rfl) rfl ?_
  refine sv_vret (pc := 117) dX8_init_117 rfl (le_t rfl) (le_t rfl) ?_
  refine sw_putfinal (pc := 85) dX11_init_85 (gCX11 _ _ _ _ _) 6 (by decide) wF_X11_51 rfl rfl rfl rfl rfl (fun _ => rfl) (fun _ => rfl) rfl ?_
  refine sv_aload_n (pc := 88) dX11_init_88 rfl rfl ?_
  refine sw_new (pc := 89) (a := 76) (n1 := 77) (ce1 := 76) (sl1 := 9163) (fs := zX3) dX11_init_89 (gCX3 _ _ _ _ _) wC_X11_55 wN_X3 wI_X3 zX3_ok rfl rfl rfl rfl rfl rfl ?_
  refine sv_dup (pc := 92) dX11_init_92 rfl ?_
  refine sv_callI (pc := 93) (M' := mX3_init) (d' := 19) (C' := 10) (S' := 2820) (av := []) ?_ (gOk _ _ _ _ _) dX11_init_93 (tX3_init _ _ _ _ _) rfl rfl wV_X3_init wM_X11_57 ⟨le_t rfl, le_t rfl⟩ ⟨le_t rfl, le_t rfl⟩ rfl (le_t rfl) (fun _ _ h => h)
  refine sC.of rfl (by decide) (le_t rfl) ?_
  refine sv_aload_n (pc := 0) dX3_init_0 rfl rfl ?_
  refine sv_objinit (pc := 1) dX3_init_1 wM_X3_3 wV_obj wK_obj ⟨le_t rfl, le_t rfl⟩ (le_t rfl) ?_
  refine sv_aload_n (pc := 4) dX3_init_4 rfl rfl ?_
  refine sv_sipush (pc := 5) (v := 256) dX3_init_5 (by decide) ?_
  refine sw_newarray (pc := 8) (kd := 0) (a := 77) (n1 := 78) (N := 256) (ce1 := 1) (sl1 := 256) (v := .int 0) dX3_init_8 rfl wA_int rfl (fun U => sI_Cond_int U _) (by decide) (by decide) rfl (fun _ => rfl) rfl rfl rfl rfl rfl rfl ?_
  refine sw_putfinal (pc := 10) dX3_init_10 (gCX3 _ _ _ _ _) 0 (by decide) wF_X3_11 rfl rfl rfl rfl rfl (fun _ => rfl) (fun _ => rfl) rfl ?_
  refine sv_aload_n (pc := 13) dX3_init_13 rfl rfl ?_
  refine sv_sipush (pc := 14) (v := 256) dX3_init_14 (by decide) ?_
  refine sw_newarray (pc := 17) (kd := 0) (a := 78) (n1 := 79) (N := 256) (ce1 := 2) (sl1 := 512) (v := .int 0) dX3_init_17 rfl wA_int rfl (fun U => sI_Cond_int U _) (by decide) (by decide) rfl (fun _ => rfl) rfl rfl rfl rfl rfl rfl ?_
  refine sw_putfinal (pc := 19) dX3_init_19 (gCX3 _ _ _ _ _) 1 (by decide) wF_X3_15 rfl rfl rfl rfl rfl (fun _ => rfl) (fun _ => rfl) rfl ?_
  refine sv_aload_n (pc := 22) dX3_init_22 rfl rfl ?_
  refine sv_bipush (pc := 23) (v := 8) dX3_init_23 (by decide) ?_
  refine sw_newarray (pc := 25) (kd := 0) (a := 79) (n1 := 80) (N := 8) (ce1 := 3) (sl1 := 520) (v := .int 0) dX3_init_25 rfl wA_int rfl (fun U => sI_Cond_int U _) (by decide) (by decide) rfl (fun _ => rfl) rfl rfl rfl rfl rfl rfl ?_
  refine sw_putfinal (pc := 27) dX3_init_27 (gCX3 _ _ _ _ _) 2 (by decide) wF_X3_18 rfl rfl rfl rfl rfl (fun _ => rfl) (fun _ => rfl) rfl ?_
  refine sv_aload_n (pc := 30) dX3_init_30 rfl rfl ?_
  refine sv_iconst (pc := 31) (v := 4) dX3_init_31 (by decide) ?_
  refine sw_newarray (pc := 32) (kd := 0) (a := 80) (n1 := 81) (N := 4) (ce1 := 4) (sl1 := 524) (v := .int 0) dX3_init_32 rfl wA_int rfl (fun U => sI_Cond_int U _) (by decide) (by decide) rfl (fun _ => rfl) rfl rfl rfl rfl rfl rfl ?_
  refine sv_dup (pc := 34) dX3_init_34 rfl ?_
  refine sv_iconst (pc := 35) (v := 0) dX3_init_35 (by decide) ?_
  refine sv_ldc (pc := 36) dX3_init_36 wG_X3_21 ?_
  refine sw_iastore (pc := 38) (k := 0) (v := .int (-99999999)) dX3_init_38 rfl rfl rfl (by decide) (by decide) rfl rfl ?_
  refine sv_dup (pc := 39) dX3_init_39 rfl ?_
  refine sv_iconst (pc := 40) (v := 1) dX3_init_40 (by decide) ?_
  refine sv_ldc (pc := 41) dX3_init_41 wG_X3_21 ?_
  refine sw_iastore (pc := 43) (k := 1) (v := .int (-99999999)) dX3_init_43 rfl rfl rfl (by decide) (by decide) rfl rfl ?_
  refine sv_dup (pc := 44) dX3_init_44 rfl ?_
  refine sv_iconst (pc := 45) (v := 2) dX3_init_45 (by decide) ?_
  refine sv_ldc (pc := 46) dX3_init_46 wG_X3_21 ?_
  refine sw_iastore (pc := 48) (k := 2) (v := .int (-99999999)) dX3_init_48 rfl rfl rfl (by decide) (by decide) rfl rfl ?_
  refine sv_dup (pc := 49) dX3_init_49 rfl ?_
  refine sv_iconst (pc := 50) (v := 3) dX3_init_50 (by decide) ?_
  refine sv_ldc (pc := 51) dX3_init_51 wG_X3_21 ?_
  refine sw_iastore (pc := 53) (k := 3) (v := .int (-99999999)) dX3_init_53 rfl rfl rfl (by decide) (by decide) rfl rfl ?_
  refine sw_putfinal (pc := 54) dX3_init_54 (gCX3 _ _ _ _ _) 3 (by decide) wF_X3_22 rfl rfl rfl rfl rfl (fun _ => rfl) (fun _ => rfl) rfl ?_
  refine sv_aload_n (pc := 57) dX3_init_57 rfl rfl ?_
  refine sw_new (pc := 58) (a := 81) (n1 := 82) (ce1 := 5) (sl1 := 536) (fs := zX7) dX3_init_58 (gCX7 _ _ _ _ _) wC_X3_25 wN_X7 wI_X7 zX7_ok rfl rfl rfl rfl rfl rfl ?_
  refine sv_dup (pc := 61) dX3_init_61 rfl ?_
  refine sv_callI (pc := 62) (M' := mX7_init) (d' := 18) (C' := 2) (S' := 28) (av := []) ?_ (gOk _ _ _ _ _) dX3_init_62 (tX7_init _ _ _ _ _) rfl rfl wV_X7_init wM_X3_27 ⟨le_t rfl, le_t rfl⟩ ⟨le_t rfl, le_t rfl⟩ rfl (le_t rfl) (fun _ _ h => h)
  refine sC.of rfl (by decide) (le_t rfl) ?_
  refine sv_aload_n (pc := 0) dX7_init_0 rfl rfl ?_
  refine sv_objinit (pc := 1) dX7_init_1 wM_X7_3 wV_obj wK_obj ⟨le_t rfl, le_t rfl⟩ (le_t rfl) ?_
  refine sv_aload_n (pc := 4) dX7_init_4 rfl rfl ?_
  refine sv_bipush (pc := 5) (v := 20) dX7_init_5 (by decide) ?_
  refine sw_newarray (pc := 7) (kd := 0) (a := 82) (n1 := 83) (N := 20) (ce1 := 1) (sl1 := 20) (v := .int 0) dX7_init_7 rfl wA_int rfl (fun U => sI_Cond_int U _) (by decide) (by decide) rfl (fun _ => rfl) rfl rfl rfl rfl rfl rfl ?_
  refine sw_putfinal (pc := 9) dX7_init_9 (gCX7 _ _ _ _ _) 0 (by decide) wF_X7_9 rfl rfl rfl rfl rfl (fun _ => rfl) (fun _ => rfl) rfl ?_
  refine sv_aload_n (pc := 12) dX7_init_12 rfl rfl ?_
  refine sv_bipush (pc := 13) (v := 8) dX7_init_13 (by decide) ?_
  refine sw_newarray (pc := 15) (kd := 0) (a := 83) (n1 := 84) (N := 8) (ce1 := 2) (sl1 := 28) (v := .int 0) dX7_init_15 rfl wA_int rfl (fun U => sI_Cond_int U _) (by decide) (by decide) rfl (fun _ => rfl) rfl rfl rfl rfl rfl rfl ?_
  refine sw_putfinal (pc := 17) dX7_init_17 (gCX7 _ _ _ _ _) 1 (by decide) wF_X7_15 rfl rfl rfl rfl rfl (fun _ => rfl) (fun _ => rfl) rfl ?_
  refine sv_aload_n (pc := 20) dX7_init_20 rfl rfl ?_
  refine sv_iconst (pc := 21) (v := (-1)) dX7_init_21 (by decide) ?_
  refine sw_putfield (pc := 22) dX7_init_22 (gCX7 _ _ _ _ _) 9 (by decide) wF_X7_18 rfl rfl rfl (fun _ => rfl) (fun _ => rfl) rfl ?_
  refine sv_vret (pc := 25) dX7_init_25 rfl (le_t rfl) (le_t rfl) ?_
  refine sw_putfinal (pc := 65) dX3_init_65 (gCX3 _ _ _ _ _) 9 (by decide) wF_X3_28 rfl rfl rfl rfl rfl (fun _ => rfl) (fun _ => rfl) rfl ?_
  refine sv_aload_n (pc := 68) dX3_init_68 rfl rfl ?_
  refine sv_sipush (pc := 69) (v := 1000) dX3_init_69 (by decide) ?_
  refine sw_newarray (pc := 72) (kd := 0) (a := 84) (n1 := 85) (N := 1000) (ce1 := 8) (sl1 := 1564) (v := .int 0) dX3_init_72 rfl wA_int rfl (fun U => sI_Cond_int U _) (by decide) (by decide) rfl (fun _ => rfl) rfl rfl rfl rfl rfl rfl ?_
  refine sw_putfinal (pc := 74) dX3_init_74 (gCX3 _ _ _ _ _) 10 (by decide) wF_X3_32 rfl rfl rfl rfl rfl (fun _ => rfl) (fun _ => rfl) rfl ?_
  refine sv_aload_n (pc := 77) dX3_init_77 rfl rfl ?_
  refine sv_sipush (pc := 78) (v := 1000) dX3_init_78 (by decide) ?_
  refine sw_newarray (pc := 81) (kd := 0) (a := 85) (n1 := 86) (N := 1000) (ce1 := 9) (sl1 := 2564) (v := .int 0) dX3_init_81 rfl wA_int rfl (fun U => sI_Cond_int U _) (by decide) (by decide) rfl (fun _ => rfl) rfl rfl rfl rfl rfl rfl ?_
  refine sw_putfinal (pc := 83) dX3_init_83 (gCX3 _ _ _ _ _) 11 (by decide) wF_X3_35 rfl rfl rfl rfl rfl (fun _ => rfl) (fun _ => rfl) rfl ?_
  refine sv_aload_n (pc := 86) dX3_init_86 rfl rfl ?_
  refine sv_sipush (pc := 87) (v := 256) dX3_init_87 (by decide) ?_
  refine sw_newarray (pc := 90) (kd := 0) (a := 86) (n1 := 87) (N := 256) (ce1 := 10) (sl1 := 2820) (v := .int 0) dX3_init_90 rfl wA_int rfl (fun U => sI_Cond_int U _) (by decide) (by decide) rfl (fun _ => rfl) rfl rfl rfl rfl rfl rfl ?_
  refine sw_putfinal (pc := 92) dX3_init_92 (gCX3 _ _ _ _ _) 12 (by decide) wF_X3_38 rfl rfl rfl rfl rfl (fun _ => rfl) (fun _ => rfl) rfl ?_
  refine sv_vret (pc := 95) dX3_init_95 rfl (le_t rfl) (le_t rfl) ?_
  refine sw_putfinal (pc := 96) dX11_init_96 (gCX11 _ _ _ _ _) 7 (by decide) wF_X11_58 rfl rfl rfl rfl rfl (fun _ => rfl) (fun _ => rfl) rfl ?_
  refine sv_aload_n (pc := 99) dX11_init_99 rfl rfl ?_
  refine sw_new (pc := 100) (a := 87) (n1 := 88) (ce1 := 87) (sl1 := 11994) (fs := zX2) dX11_init_100 (gCX2 _ _ _ _ _) wC_X11_62 wN_X2 wI_X2 zX2_ok rfl rfl rfl rfl rfl rfl ?_
  refine sv_dup (pc := 103) dX11_init_103 rfl ?_
  refine sv_aload_n (pc := 104) dX11_init_104 rfl rfl ?_
  refine sw_getfield (pc := 105) dX11_init_105 (gCX11 _ _ _ _ _) 3 (by decide) wF_X11_26 rfl rfl rfl ?_
  refine sv_callI (pc := 108) (M' := mX2_init) (d' := 19) (C' := 6) (S' := 90) (av := [.ref 6]) ?_ (gOk _ _ _ _ _) dX11_init_108 (tX2_init _ _ _ _ _) rfl rfl wV_X2_init wM_X11_64 ⟨le_t rfl, le_t rfl⟩ ⟨le_t rfl, le_t rfl⟩ rfl (le_t rfl) (fun _ _ h => h)
  refine sC.of rfl (by decide) (le_t rfl) ?_
  refine sv_aload_n (pc := 0) dX2_init_0 rfl rfl ?_
  refine sv_objinit (pc := 1) dX2_init_1 wM_X2_3 wV_obj wK_obj ⟨le_t rfl, le_t rfl⟩ (le_t rfl) ?_
  refine sv_aload_n (pc := 4) dX2_init_4 rfl rfl ?_
  refine sv_aload_n (pc := 5) dX2_init_5 rfl rfl ?_
  refine sw_putfinal (pc := 6) dX2_init_6 (gCX2 _ _ _ _ _) 0 (by decide) wF_X2_9 rfl rfl rfl rfl rfl (fun _ => rfl) (fun _ => rfl) rfl ?_
  refine sv_aload_n (pc := 9) dX2_init_9 rfl rfl ?_
  refine sv_bipush (pc := 10) (v := 11) dX2_init_10 (by decide) ?_
  refine sw_newarray (pc := 12) (kd := 0) (a := 88) (n1 := 89) (N := 11) (ce1 := 1) (sl1 := 11) (v := .int 0) dX2_init_12 rfl wA_int rfl (fun U => sI_Cond_int U _) (by decide) (by decide) rfl (fun _ => rfl) rfl rfl rfl rfl rfl rfl ?_
  refine sw_putfinal (pc := 14) dX2_init_14 (gCX2 _ _ _ _ _) 1 (by decide) wF_X2_15 rfl rfl rfl rfl rfl (fun _ => rfl) (fun _ => rfl) rfl ?_
  refine sv_aload_n (pc := 17) dX2_init_17 rfl rfl ?_
  refine sv_bipush (pc := 18) (v := 11) dX2_init_18 (by decide) ?_
  refine sw_newarray (pc := 20) (kd := 0) (a := 89) (n1 := 90) (N := 11) (ce1 := 2) (sl1 := 22) (v := .int 0) dX2_init_20 rfl wA_int rfl (fun U => sI_Cond_int U _) (by decide) (by decide) rfl (fun _ => rfl) rfl rfl rfl rfl rfl rfl ?_
  refine sw_putfinal (pc := 22) dX2_init_22 (gCX2 _ _ _ _ _) 8 (by decide) wF_X2_19 rfl rfl rfl rfl rfl (fun _ => rfl) (fun _ => rfl) rfl ?_
  refine sv_aload_n (pc := 25) dX2_init_25 rfl rfl ?_
  refine sv_bipush (pc := 26) (v := 16) dX2_init_26 (by decide) ?_
  refine sw_newarray (pc := 28) (kd := 0) (a := 90) (n1 := 91) (N := 16) (ce1 := 3) (sl1 := 38) (v := .int 0) dX2_init_28 rfl wA_int rfl (fun U => sI_Cond_int U _) (by decide) (by decide) rfl (fun _ => rfl) rfl rfl rfl rfl rfl rfl ?_
  refine sw_putfinal (pc := 30) dX2_init_30 (gCX2 _ _ _ _ _) 2 (by decide) wF_X2_22 rfl rfl rfl rfl rfl (fun _ => rfl) (fun _ => rfl) rfl ?_
  refine sv_aload_n (pc := 33) dX2_init_33 rfl rfl ?_
  refine sv_bipush (pc := 34) (v := 16) dX2_init_34 (by decide) ?_
  refine sw_newarray (pc := 36) (kd := 0) (a := 91) (n1 := 92) (N := 16) (ce1 := 4) (sl1 := 54) (v := .int 0) dX2_init_36 rfl wA_int rfl (fun U => sI_Cond_int U _) (by decide) (by decide) rfl (fun _ => rfl) rfl rfl rfl rfl rfl rfl ?_
  refine sw_putfinal (pc := 38) dX2_init_38 (gCX2 _ _ _ _ _) 3 (by decide) wF_X2_25 rfl rfl rfl rfl rfl (fun _ => rfl) (fun _ => rfl) rfl ?_
  refine sv_aload_n (pc := 41) dX2_init_41 rfl rfl ?_
  refine sv_bipush (pc := 42) (v := 16) dX2_init_42 (by decide) ?_
  refine sw_newarray (pc := 44) (kd := 0) (a := 92) (n1 := 93) (N := 16) (ce1 := 5) (sl1 := 70) (v := .int 0) dX2_init_44 rfl wA_int rfl (fun U => sI_Cond_int U _) (by decide) (by decide) rfl (fun _ => rfl) rfl rfl rfl rfl rfl rfl ?_
  refine sw_putfinal (pc := 46) dX2_init_46 (gCX2 _ _ _ _ _) 4 (by decide) wF_X2_28 rfl rfl rfl rfl rfl (fun _ => rfl) (fun _ => rfl) rfl ?_
  refine sv_aload_n (pc := 49) dX2_init_49 rfl rfl ?_
  refine sv_bipush (pc := 50) (v := 20) dX2_init_50 (by decide) ?_
  refine sw_newarray (pc := 52) (kd := 1) (a := 93) (n1 := 94) (N := 20) (ce1 := 6) (sl1 := 90) (v := .long 0) dX2_init_52 rfl wA_long rfl (fun U => sI_Cond_long U _) (by decide) (by decide) rfl (fun _ => rfl) rfl rfl rfl rfl rfl rfl ?_
  refine sw_putfinal (pc := 54) dX2_init_54 (gCX2 _ _ _ _ _) 5 (by decide) wF_X2_31 rfl rfl rfl rfl rfl (fun _ => rfl) (fun _ => rfl) rfl ?_
  refine sv_vret (pc := 57) dX2_init_57 rfl (le_t rfl) (le_t rfl) ?_
  refine sw_putfinal (pc := 111) dX11_init_111 (gCX11 _ _ _ _ _) 8 (by decide) wF_X11_65 rfl rfl rfl rfl rfl (fun _ => rfl) (fun _ => rfl) rfl ?_
  refine sv_aload_n (pc := 114) dX11_init_114 rfl rfl ?_
  refine sw_new (pc := 115) (a := 94) (n1 := 95) (ce1 := 94) (sl1 := 12099) (fs := zX4) dX11_init_115 (gCX4 _ _ _ _ _) wC_X11_69 wN_X4 wI_X4 zX4_ok rfl rfl rfl rfl rfl rfl ?_
  refine sv_dup (pc := 118) dX11_init_118 rfl ?_
  refine sv_callI (pc := 119) (M' := mX4_init) (d' := 19) (C' := 11) (S' := 423) (av := []) ?_ (gOk _ _ _ _ _) dX11_init_119 (tX4_init _ _ _ _ _) rfl rfl wV_X4_init wM_X11_71 ⟨le_t rfl, le_t rfl⟩ ⟨le_t rfl, le_t rfl⟩ rfl (le_t rfl) (fun _ _ h => h)
  refine sC.of rfl (by decide) (le_t rfl) ?_
  refine sv_aload_n (pc := 0) dX4_init_0 rfl rfl ?_
  refine sv_objinit (pc := 1) dX4_init_1 wM_X4_3 wV_obj wK_obj ⟨le_t rfl, le_t rfl⟩ (le_t rfl) ?_
  refine sv_aload_n (pc := 4) dX4_init_4 rfl rfl ?_
  refine sv_bipush (pc := 5) (v := 7) dX4_init_5 (by decide) ?_
  refine sw_newarray (pc := 7) (kd := 0) (a := 95) (n1 := 96) (N := 7) (ce1 := 1) (sl1 := 7) (v := .int 0) dX4_init_7 rfl wA_int rfl (fun U => sI_Cond_int U _) (by decide) (by decide) rfl (fun _ => rfl) rfl rfl rfl rfl rfl rfl ?_
  refine sw_putfinal (pc := 9) dX4_init_9 (gCX4 _ _ _ _ _) 12 (by decide) wF_X4_11 rfl rfl rfl rfl rfl (fun _ => rfl) (fun _ => rfl) rfl ?_
  refine sv_aload_n (pc := 12) dX4_init_12 rfl rfl ?_
  refine sv_sipush (pc := 13) (v := 245) dX4_init_13 (by decide) ?_
  refine sw_newarray (pc := 16) (kd := 0) (a := 96) (n1 := 97) (N := 245) (ce1 := 2) (sl1 := 252) (v := .int 0) dX4_init_16 rfl wA_int rfl (fun U => sI_Cond_int U _) (by decide) (by decide) rfl (fun _ => rfl) rfl rfl rfl rfl rfl rfl ?_
  refine sw_putfinal (pc := 18) dX4_init_18 (gCX4 _ _ _ _ _) 0 (by decide) wF_X4_15 rfl rfl rfl rfl rfl (fun _ => rfl) (fun _ => rfl) rfl ?_
  refine sv_aload_n (pc := 21) dX4_init_21 rfl rfl ?_
  refine sv_bipush (pc := 22) (v := 35) dX4_init_22 (by decide) ?_
  refine sw_newarray (pc := 24) (kd := 0) (a := 97) (n1 := 98) (N := 35) (ce1 := 3) (sl1 := 287) (v := .int 0) dX4_init_24 rfl wA_int rfl (fun U => sI_Cond_int U _) (by decide) (by decide) rfl (fun _ => rfl) rfl rfl rfl rfl rfl rfl ?_
  refine sw_putfinal (pc := 26) dX4_init_26 (gCX4 _ _ _ _ _) 1 (by decide) wF_X4_18 rfl rfl rfl rfl rfl (fun _ => rfl) (fun _ => rfl) rfl ?_
  refine sv_aload_n (pc := 29) dX4_init_29 rfl rfl ?_
  refine sv_bipush (pc := 30) (v := 35) dX4_init_30 (by decide) ?_
  refine sw_newarray (pc := 32) (kd := 0) (a := 98) (n1 := 99) (N := 35) (ce1 := 4) (sl1 := 322) (v := .int 0) dX4_init_32 rfl wA_int rfl (fun U => sI_Cond_int U _) (by decide) (by decide) rfl (fun _ => rfl) rfl rfl rfl rfl rfl rfl ?_
  refine sw_putfinal (pc := 34) dX4_init_34 (gCX4 _ _ _ _ _) 2 (by decide) wF_X4_21 rfl rfl rfl rfl rfl (fun _ => rfl) (fun _ => rfl) rfl ?_
  refine sv_aload_n (pc := 37) dX4_init_37 rfl rfl ?_
  refine sv_bipush (pc := 38) (v := 35) dX4_init_38 (by decide) ?_
  refine sw_newarray (pc := 40) (kd := 0) (a := 99) (n1 := 100) (N := 35) (ce1 := 5) (sl1 := 357) (v := .int 0) dX4_init_40 rfl wA_int rfl (fun U => sI_Cond_int U _) (by decide) (by decide) rfl (fun _ => rfl) rfl rfl rfl rfl rfl rfl ?_
  refine sw_putfinal (pc := 42) dX4_init_42 (gCX4 _ _ _ _ _) 3 (by decide) wF_X4_24 rfl rfl rfl rfl rfl (fun _ => rfl) (fun _ => rfl) rfl ?_
  refine sv_aload_n (pc := 45) dX4_init_45 rfl rfl ?_
  refine sv_bipush (pc := 46) (v := 7) dX4_init_46 (by decide) ?_
  refine sw_newarray (pc := 48) (kd := 0) (a := 100) (n1 := 101) (N := 7) (ce1 := 6) (sl1 := 364) (v := .int 0) dX4_init_48 rfl wA_int rfl (fun U => sI_Cond_int U _) (by decide) (by decide) rfl (fun _ => rfl) rfl rfl rfl rfl rfl rfl ?_
  refine sw_putfinal (pc := 50) dX4_init_50 (gCX4 _ _ _ _ _) 4 (by decide) wF_X4_27 rfl rfl rfl rfl rfl (fun _ => rfl) (fun _ => rfl) rfl ?_
  refine sv_aload_n (pc := 53) dX4_init_53 rfl rfl ?_
  refine sv_bipush (pc := 54) (v := 7) dX4_init_54 (by decide) ?_
  refine sw_newarray (pc := 56) (kd := 0) (a := 101) (n1 := 102) (N := 7) (ce1 := 7) (sl1 := 371) (v := .int 0) dX4_init_56 rfl wA_int rfl (fun U => sI_Cond_int U _) (by decide) (by decide) rfl (fun _ => rfl) rfl rfl rfl rfl rfl rfl ?_
  refine sw_putfinal (pc := 58) dX4_init_58 (gCX4 _ _ _ _ _) 5 (by decide) wF_X4_30 rfl rfl rfl rfl rfl (fun _ => rfl) (fun _ => rfl) rfl ?_
  refine sv_aload_n (pc := 61) dX4_init_61 rfl rfl ?_
  refine sv_bipush (pc := 62) (v := 16) dX4_init_62 (by decide) ?_
  refine sw_newarray (pc := 64) (kd := 0) (a := 102) (n1 := 103) (N := 16) (ce1 := 8) (sl1 := 387) (v := .int 0) dX4_init_64 rfl wA_int rfl (fun U => sI_Cond_int U _) (by decide) (by decide) rfl (fun _ => rfl) rfl rfl rfl rfl rfl rfl ?_
  refine sw_putfield (pc := 66) dX4_init_66 (gCX4 _ _ _ _ _) 6 (by decide) wF_X4_33 rfl rfl rfl (fun _ => rfl) (fun _ => rfl) rfl ?_
  refine sv_aload_n (pc := 69) dX4_init_69 rfl rfl ?_
  refine sv_bipush (pc := 70) (v := 16) dX4_init_70 (by decide) ?_
  refine sw_newarray (pc := 72) (kd := 0) (a := 103) (n1 := 104) (N := 16) (ce1 := 9) (sl1 := 403) (v := .int 0) dX4_init_72 rfl wA_int rfl (fun U => sI_Cond_int U _) (by decide) (by decide) rfl (fun _ => rfl) rfl rfl rfl rfl rfl rfl ?_
  refine sw_putfield (pc := 74) dX4_init_74 (gCX4 _ _ _ _ _) 7 (by decide) wF_X4_36 rfl rfl rfl (fun _ => rfl) (fun _ => rfl) rfl ?_
  refine sv_aload_n (pc := 77) dX4_init_77 rfl rfl ?_
  refine sv_bipush (pc := 78) (v := 16) dX4_init_78 (by decide) ?_
  refine sw_newarray (pc := 80) (kd := 2) (a := 104) (n1 := 105) (N := 16) (ce1 := 10) (sl1 := 419) (v := .int 0) dX4_init_80 rfl wA_byte rfl (fun U => sI_Cond_byte U _) (by decide) (by decide) rfl (fun _ => rfl) rfl rfl rfl rfl rfl rfl ?_
  refine sw_putfield (pc := 82) dX4_init_82 (gCX4 _ _ _ _ _) 8 (by decide) wF_X4_39 rfl rfl rfl (fun _ => rfl) (fun _ => rfl) rfl ?_
  refine sv_aload_n (pc := 85) dX4_init_85 rfl rfl ?_
  refine sv_iconst (pc := 86) (v := 4) dX4_init_86 (by decide) ?_
  refine sw_newarray (pc := 87) (kd := 0) (a := 105) (n1 := 106) (N := 4) (ce1 := 11) (sl1 := 423) (v := .int 0) dX4_init_87 rfl wA_int rfl (fun U => sI_Cond_int U _) (by decide) (by decide) rfl (fun _ => rfl) rfl rfl rfl rfl rfl rfl ?_
  refine sw_putfinal (pc := 89) dX4_init_89 (gCX4 _ _ _ _ _) 13 (by decide) wF_X4_43 rfl rfl rfl rfl rfl (fun _ => rfl) (fun _ => rfl) rfl ?_
  refine sv_vret (pc := 92) dX4_init_92 rfl (le_t rfl) (le_t rfl) ?_
  refine sw_putfinal (pc := 122) dX11_init_122 (gCX11 _ _ _ _ _) 9 (by decide) wF_X11_72 rfl rfl rfl rfl rfl (fun _ => rfl) (fun _ => rfl) rfl ?_
  refine sv_vret dX11_init_125 rfl (le_t rfl) (le_t rfl) ⟨rfl, rfl, fun j hj => ?_⟩
  match j, hj with
  | 0, _ => exact rfl
  | 1, _ => exact rfl
  | 2, _ => exact rfl
  | 3, _ => exact rfl
  | 4, _ => exact rfl
  | 5, _ => exact rfl
  | 6, _ => exact rfl
  | 7, _ => exact rfl
  | 8, _ => exact rfl
  | 9, _ => exact rfl
  | 10, _ => exact rfl
  | 11, _ => exact rfl
  | 12, _ => exact rfl
  | 13, _ => exact rfl
  | 14, _ => exact rfl
  | 15, _ => exact rfl
  | 16, _ => exact rfl
  | 17, _ => exact rfl
  | 18, _ => exact rfl
  | 19, _ => exact rfl
  | 20, _ => exact rfl
  | 21, _ => exact rfl
  | 22, _ => exact rfl
  | 23, _ => exact rfl
  | 24, _ => exact rfl
  | 25, _ => exact rfl
  | 26, _ => exact rfl
  | 27, _ => exact rfl
  | 28, _ => exact rfl
  | 29, _ => exact rfl
  | 30, _ => exact rfl
  | 31, _ => exact rfl
  | 32, _ => exact rfl
  | 33, _ => exact rfl
  | 34, _ => exact rfl
  | 35, _ => exact rfl
  | 36, _ => exact rfl
  | 37, _ => exact rfl
  | 38, _ => exact rfl
  | 39, _ => exact rfl
  | 40, _ => exact rfl
  | 41, _ => exact rfl
  | 42, _ => exact rfl
  | 43, _ => exact rfl
  | 44, _ => exact rfl
  | 45, _ => exact rfl
  | 46, _ => exact rfl
  | 47, _ => exact rfl
  | 48, _ => exact rfl
  | 49, _ => exact rfl
  | 50, _ => exact rfl
  | 51, _ => exact rfl
  | 52, _ => exact rfl
  | 53, _ => exact rfl
  | 54, _ => exact rfl
  | 55, _ => exact rfl
  | 56, _ => exact rfl
  | 57, _ => exact rfl
  | 58, _ => exact rfl
  | 59, _ => exact rfl
  | 60, _ => exact rfl
  | 61, _ => exact rfl
  | 62, _ => exact rfl
  | 63, _ => exact rfl
  | 64, _ => exact rfl
  | 65, _ => exact rfl
  | 66, _ => exact rfl
  | 67, _ => exact rfl
  | 68, _ => exact rfl
  | 69, _ => exact rfl
  | 70, _ => exact rfl
  | 71, _ => exact rfl
  | 72, _ => exact rfl
  | 73, _ => exact rfl
  | 74, _ => exact rfl
  | 75, _ => exact rfl
  | 76, _ => exact rfl
  | 77, _ => exact rfl
  | 78, _ => exact rfl
  | 79, _ => exact rfl
  | 80, _ => exact rfl
  | 81, _ => exact rfl
  | 82, _ => exact rfl
  | 83, _ => exact rfl
  | 84, _ => exact rfl
  | 85, _ => exact rfl
  | 86, _ => exact rfl
  | 87, _ => exact rfl
  | 88, _ => exact rfl
  | 89, _ => exact rfl
  | 90, _ => exact rfl
  | 91, _ => exact rfl
  | 92, _ => exact rfl
  | 93, _ => exact rfl
  | 94, _ => exact rfl
  | 95, _ => exact rfl
  | 96, _ => exact rfl
  | 97, _ => exact rfl
  | 98, _ => exact rfl
  | 99, _ => exact rfl
  | 100, _ => exact rfl
  | 101, _ => exact rfl
  | 102, _ => exact rfl
  | 103, _ => exact rfl
  | 104, _ => exact rfl
  | 105, _ => exact rfl
  | n + 106, h => exact absurd h (by omega)
end
section
theorem dX12_count_4 : decode cX12_count 4 = .ok (.iload_n 3, 1) := by decide +kernel
theorem dX12_count_5 : decode cX12_count 5 = .ok (.sipush 400, 3) := by decide +kernel
theorem dX12_count_8 : decode cX12_count 8 = .ok (.if_icmp .ge 41, 3) := by decide +kernel
theorem dX12_count_11 : decode cX12_count 11 = .ok (.iload_n 2, 1) := by decide +kernel
theorem dX12_count_12 : decode cX12_count 12 = .ok (.aload_n 0, 1) := by decide +kernel
theorem dX12_count_13 : decode cX12_count 13 = .ok (.getfield 433, 3) := by decide +kernel
theorem dX12_count_16 : decode cX12_count 16 = .ok (.iload_n 3, 1) := by decide +kernel
theorem dX12_count_17 : decode cX12_count 17 = .ok (.iaload, 1) := by decide +kernel
theorem dX12_count_18 : decode cX12_count 18 = .ok (.ifCond .lt 7, 3) := by decide +kernel
theorem dX12_count_25 : decode cX12_count 25 = .ok (.iconst 0, 1) := by decide +kernel
theorem dX12_count_26 : decode cX12_count 26 = .ok (.aload_n 0, 1) := by decide +kernel
theorem dX12_count_27 : decode cX12_count 27 = .ok (.getfield 439, 3) := by decide +kernel
theorem dX12_count_30 : decode cX12_count 30 = .ok (.iload_n 3, 1) := by decide +kernel
theorem dX12_count_31 : decode cX12_count 31 = .ok (.iaload, 1) := by decide +kernel
theorem dX12_count_32 : decode cX12_count 32 = .ok (.ifCond .lt 7, 3) := by decide +kernel
theorem dX12_count_39 : decode cX12_count 39 = .ok (.iconst 0, 1) := by decide +kernel
theorem dX12_count_40 : decode cX12_count 40 = .ok (.iadd, 1) := by decide +kernel
theorem dX12_count_41 : decode cX12_count 41 = .ok (.iadd, 1) := by decide +kernel
theorem dX12_count_42 : decode cX12_count 42 = .ok (.istore_n 2, 1) := by decide +kernel
theorem dX12_count_43 : decode cX12_count 43 = .ok (.iinc 3 1, 3) := by decide +kernel
theorem dX12_count_46 : decode cX12_count 46 = .ok (.goto (-42), 3) := by decide +kernel
theorem dX12_init_722 : decode cX12_init 722 = .ok (.iload_n 1, 1) := by decide +kernel
theorem dX12_init_723 : decode cX12_init 723 = .ok (.sipush 1400, 3) := by decide +kernel
theorem dX12_init_726 : decode cX12_init 726 = .ok (.if_icmp .ge 14, 3) := by decide +kernel
theorem dX12_init_729 : decode cX12_init 729 = .ok (.aload_n 0, 1) := by decide +kernel
theorem dX12_init_730 : decode cX12_init 730 = .ok (.iload_n 1, 1) := by decide +kernel
theorem dX12_init_731 : decode cX12_init 731 = .ok (.invokevirtual 539, 3) := by decide +kernel
theorem dX12_init_734 : decode cX12_init 734 = .ok (.iinc 1 1, 3) := by decide +kernel
theorem dX12_init_737 : decode cX12_init 737 = .ok (.goto (-15), 3) := by decide +kernel
theorem dX12_init_742 : decode cX12_init 742 = .ok (.iload_n 1, 1) := by decide +kernel
theorem dX12_init_743 : decode cX12_init 743 = .ok (.sipush 400, 3) := by decide +kernel
theorem dX12_init_746 : decode cX12_init 746 = .ok (.if_icmp .ge 23, 3) := by decide +kernel
theorem dX12_init_749 : decode cX12_init 749 = .ok (.aload_n 0, 1) := by decide +kernel
theorem dX12_init_750 : decode cX12_init 750 = .ok (.getfield 433, 3) := by decide +kernel
theorem dX12_init_753 : decode cX12_init 753 = .ok (.iload_n 1, 1) := by decide +kernel
theorem dX12_init_754 : decode cX12_init 754 = .ok (.iconst (-1), 1) := by decide +kernel
theorem dX12_init_755 : decode cX12_init 755 = .ok (.iastore, 1) := by decide +kernel
theorem dX12_init_756 : decode cX12_init 756 = .ok (.aload_n 0, 1) := by decide +kernel
theorem dX12_init_757 : decode cX12_init 757 = .ok (.getfield 439, 3) := by decide +kernel
theorem dX12_init_760 : decode cX12_init 760 = .ok (.iload_n 1, 1) := by decide +kernel
theorem dX12_init_761 : decode cX12_init 761 = .ok (.iconst (-1), 1) := by decide +kernel
theorem dX12_init_762 : decode cX12_init 762 = .ok (.iastore, 1) := by decide +kernel
theorem dX12_init_763 : decode cX12_init 763 = .ok (.iinc 1 1, 3) := by decide +kernel
theorem dX12_init_766 : decode cX12_init 766 = .ok (.goto (-24), 3) := by decide +kernel
theorem dX12_init_771 : decode cX12_init 771 = .ok (.iload_n 1, 1) := by decide +kernel
theorem dX12_init_772 : decode cX12_init 772 = .ok (.bipush 100, 2) := by decide +kernel
theorem dX12_init_774 : decode cX12_init 774 = .ok (.if_icmp .ge 24, 3) := by decide +kernel
theorem dX12_init_777 : decode cX12_init 777 = .ok (.aload_n 0, 1) := by decide +kernel
theorem dX12_init_778 : decode cX12_init 778 = .ok (.getfield 445, 3) := by decide +kernel
theorem dX12_init_781 : decode cX12_init 781 = .ok (.iload_n 1, 1) := by decide +kernel
theorem dX12_init_782 : decode cX12_init 782 = .ok (.ldc 29, 2) := by decide +kernel
theorem dX12_init_784 : decode cX12_init 784 = .ok (.iastore, 1) := by decide +kernel
theorem dX12_init_785 : decode cX12_init 785 = .ok (.aload_n 0, 1) := by decide +kernel
theorem dX12_init_786 : decode cX12_init 786 = .ok (.getfield 448, 3) := by decide +kernel
theorem dX12_init_789 : decode cX12_init 789 = .ok (.iload_n 1, 1) := by decide +kernel
theorem dX12_init_790 : decode cX12_init 790 = .ok (.iconst (-1), 1) := by decide +kernel
theorem dX12_init_791 : decode cX12_init 791 = .ok (.iastore, 1) := by decide +kernel
theorem dX12_init_792 : decode cX12_init 792 = .ok (.iinc 1 1, 3) := by decide +kernel
theorem dX12_init_795 : decode cX12_init 795 = .ok (.goto (-24), 3) := by decide +kernel
theorem dX12_message_23 : decode cX12_message 23 = .ok (.iload_n 1, 1) := by decide +kernel
theorem dX12_message_24 : decode cX12_message 24 = .ok (.sipush 256, 3) := by decide +kernel
theorem dX12_message_27 : decode cX12_message 27 = .ok (.if_icmp .ge 16, 3) := by decide +kernel
theorem dX12_message_30 : decode cX12_message 30 = .ok (.aload_n 0, 1) := by decide +kernel
theorem dX12_message_31 : decode cX12_message 31 = .ok (.getfield 475, 3) := by decide +kernel
theorem dX12_message_34 : decode cX12_message 34 = .ok (.iload_n 1, 1) := by decide +kernel
theorem dX12_message_35 : decode cX12_message 35 = .ok (.iconst 0, 1) := by decide +kernel
theorem dX12_message_36 : decode cX12_message 36 = .ok (.bastore, 1) := by decide +kernel
theorem dX12_message_37 : decode cX12_message 37 = .ok (.iinc 1 1, 3) := by decide +kernel
theorem dX12_message_40 : decode cX12_message 40 = .ok (.goto (-17), 3) := by decide +kernel
theorem dX12_nextEvent_0 : decode cX12_nextEvent 0 = .ok (.ldc 29, 2) := by decide +kernel
theorem dX12_nextEvent_2 : decode cX12_nextEvent 2 = .ok (.istore_n 1, 1) := by decide +kernel
theorem dX12_nextEvent_3 : decode cX12_nextEvent 3 = .ok (.iconst 0, 1) := by decide +kernel
theorem dX12_nextEvent_4 : decode cX12_nextEvent 4 = .ok (.istore_n 2, 1) := by decide +kernel
theorem dX12_nextEvent_5 : decode cX12_nextEvent 5 = .ok (.iconst 0, 1) := by decide +kernel
theorem dX12_nextEvent_6 : decode cX12_nextEvent 6 = .ok (.istore_n 3, 1) := by decide +kernel
theorem dX12_nextEvent_7 : decode cX12_nextEvent 7 = .ok (.iconst 0, 1) := by decide +kernel
theorem dX12_nextEvent_8 : decode cX12_nextEvent 8 = .ok (.istore 4, 2) := by decide +kernel
theorem dX12_nextEvent_10 : decode cX12_nextEvent 10 = .ok (.iload 4, 2) := by decide +kernel
theorem dX12_nextEvent_12 : decode cX12_nextEvent 12 = .ok (.sipush 800, 3) := by decide +kernel
theorem dX12_nextEvent_15 : decode cX12_nextEvent 15 = .ok (.if_icmp .ge 117, 3) := by decide +kernel
theorem dX12_nextEvent_18 : decode cX12_nextEvent 18 = .ok (.iload 4, 2) := by decide +kernel
theorem dX12_nextEvent_20 : decode cX12_nextEvent 20 = .ok (.sipush 400, 3) := by decide +kernel
theorem dX12_nextEvent_23 : decode cX12_nextEvent 23 = .ok (.if_icmp .ge 13, 3) := by decide +kernel
theorem dX12_nextEvent_26 : decode cX12_nextEvent 26 = .ok (.aload_n 0, 1) := by decide +kernel
theorem dX12_nextEvent_27 : decode cX12_nextEvent 27 = .ok (.getfield 433, 3) := by decide +kernel
theorem dX12_nextEvent_30 : decode cX12_nextEvent 30 = .ok (.iload 4, 2) := by decide +kernel
theorem dX12_nextEvent_32 : decode cX12_nextEvent 32 = .ok (.iaload, 1) := by decide +kernel
theorem dX12_nextEvent_33 : decode cX12_nextEvent 33 = .ok (.goto 14, 3) := by decide +kernel
theorem dX12_nextEvent_36 : decode cX12_nextEvent 36 = .ok (.aload_n 0, 1) := by decide +kernel
theorem dX12_nextEvent_37 : decode cX12_nextEvent 37 = .ok (.getfield 439, 3) := by decide +kernel
theorem dX12_nextEvent_40 : decode cX12_nextEvent 40 = .ok (.iload 4, 2) := by decide +kernel
theorem dX12_nextEvent_42 : decode cX12_nextEvent 42 = .ok (.sipush 400, 3) := by decide +kernel
theorem dX12_nextEvent_45 : decode cX12_nextEvent 45 = .ok (.isub, 1) := by decide +kernel
theorem dX12_nextEvent_46 : decode cX12_nextEvent 46 = .ok (.iaload, 1) := by decide +kernel
theorem dX12_nextEvent_47 : decode cX12_nextEvent 47 = .ok (.istore 5, 2) := by decide +kernel
theorem dX12_nextEvent_49 : decode cX12_nextEvent 49 = .ok (.iload 4, 2) := by decide +kernel
theorem dX12_nextEvent_51 : decode cX12_nextEvent 51 = .ok (.sipush 400, 3) := by decide +kernel
theorem dX12_nextEvent_54 : decode cX12_nextEvent 54 = .ok (.if_icmp .ge 13, 3) := by decide +kernel
theorem dX12_nextEvent_57 : decode cX12_nextEvent 57 = .ok (.aload_n 0, 1) := by decide +kernel
theorem dX12_nextEvent_58 : decode cX12_nextEvent 58 = .ok (.getfield 436, 3) := by decide +kernel
theorem dX12_nextEvent_61 : decode cX12_nextEvent 61 = .ok (.iload 4, 2) := by decide +kernel
theorem dX12_nextEvent_63 : decode cX12_nextEvent 63 = .ok (.iaload, 1) := by decide +kernel
theorem dX12_nextEvent_64 : decode cX12_nextEvent 64 = .ok (.goto 14, 3) := by decide +kernel
theorem dX12_nextEvent_67 : decode cX12_nextEvent 67 = .ok (.aload_n 0, 1) := by decide +kernel
theorem dX12_nextEvent_68 : decode cX12_nextEvent 68 = .ok (.getfield 442, 3) := by decide +kernel
theorem dX12_nextEvent_71 : decode cX12_nextEvent 71 = .ok (.iload 4, 2) := by decide +kernel
theorem dX12_nextEvent_73 : decode cX12_nextEvent 73 = .ok (.sipush 400, 3) := by decide +kernel
theorem dX12_nextEvent_76 : decode cX12_nextEvent 76 = .ok (.isub, 1) := by decide +kernel
theorem dX12_nextEvent_77 : decode cX12_nextEvent 77 = .ok (.iaload, 1) := by decide +kernel
theorem dX12_nextEvent_78 : decode cX12_nextEvent 78 = .ok (.istore 6, 2) := by decide +kernel
theorem dX12_nextEvent_80 : decode cX12_nextEvent 80 = .ok (.iload 5, 2) := by decide +kernel
theorem dX12_nextEvent_82 : decode cX12_nextEvent 82 = .ok (.ifCond .lt 44, 3) := by decide +kernel
theorem dX12_nextEvent_85 : decode cX12_nextEvent 85 = .ok (.iload 5, 2) := by decide +kernel
theorem dX12_nextEvent_87 : decode cX12_nextEvent 87 = .ok (.ldc_w 606, 3) := by decide +kernel
theorem dX12_nextEvent_90 : decode cX12_nextEvent 90 = .ok (.if_icmp .gt 36, 3) := by decide +kernel
theorem dX12_nextEvent_93 : decode cX12_nextEvent 93 = .ok (.iload_n 1, 1) := by decide +kernel
theorem dX12_nextEvent_94 : decode cX12_nextEvent 94 = .ok (.ldc 29, 2) := by decide +kernel
theorem dX12_nextEvent_96 : decode cX12_nextEvent 96 = .ok (.if_icmp .eq 21, 3) := by decide +kernel
theorem dX12_nextEvent_99 : decode cX12_nextEvent 99 = .ok (.iload 5, 2) := by decide +kernel
theorem dX12_nextEvent_101 : decode cX12_nextEvent 101 = .ok (.iload_n 2, 1) := by decide +kernel
theorem dX12_nextEvent_102 : decode cX12_nextEvent 102 = .ok (.if_icmp .lt 15, 3) := by decide +kernel
theorem dX12_nextEvent_105 : decode cX12_nextEvent 105 = .ok (.iload 5, 2) := by decide +kernel
theorem dX12_nextEvent_107 : decode cX12_nextEvent 107 = .ok (.iload_n 2, 1) := by decide +kernel
theorem dX12_nextEvent_108 : decode cX12_nextEvent 108 = .ok (.if_icmp .ne 18, 3) := by decide +kernel
theorem dX12_nextEvent_111 : decode cX12_nextEvent 111 = .ok (.iload 6, 2) := by decide +kernel
theorem dX12_nextEvent_113 : decode cX12_nextEvent 113 = .ok (.iload_n 3, 1) := by decide +kernel
theorem dX12_nextEvent_114 : decode cX12_nextEvent 114 = .ok (.if_icmp .ge 12, 3) := by decide +kernel
theorem dX12_nextEvent_117 : decode cX12_nextEvent 117 = .ok (.iload 4, 2) := by decide +kernel
theorem dX12_nextEvent_119 : decode cX12_nextEvent 119 = .ok (.istore_n 1, 1) := by decide +kernel
theorem dX12_nextEvent_120 : decode cX12_nextEvent 120 = .ok (.iload 5, 2) := by decide +kernel
theorem dX12_nextEvent_122 : decode cX12_nextEvent 122 = .ok (.istore_n 2, 1) := by decide +kernel
theorem dX12_nextEvent_123 : decode cX12_nextEvent 123 = .ok (.iload 6, 2) := by decide +kernel
theorem dX12_nextEvent_125 : decode cX12_nextEvent 125 = .ok (.istore_n 3, 1) := by decide +kernel
theorem dX12_nextEvent_126 : decode cX12_nextEvent 126 = .ok (.iinc 4 1, 3) := by decide +kernel
theorem dX12_nextEvent_129 : decode cX12_nextEvent 129 = .ok (.goto (-119), 3) := by decide +kernel
theorem dX12_nextEvent_132 : decode cX12_nextEvent 132 = .ok (.iload_n 1, 1) := by decide +kernel
theorem dX12_nextEvent_133 : decode cX12_nextEvent 133 = .ok (.ireturn, 1) := by decide +kernel
theorem dX12_nothing_0 : decode cX12_nothing 0 = .ok (.aload_n 0, 1) := by decide +kernel
theorem dX12_nothing_1 : decode cX12_nothing 1 = .ok (.getfield 148, 3) := by decide +kernel
theorem dX12_nothing_4 : decode cX12_nothing 4 = .ok (.bipush 40, 2) := by decide +kernel
theorem dX12_nothing_6 : decode cX12_nothing 6 = .ok (.iload_n 1, 1) := by decide +kernel
theorem dX12_nothing_7 : decode cX12_nothing 7 = .ok (.imul, 1) := by decide +kernel
theorem dX12_nothing_8 : decode cX12_nothing 8 = .ok (.iconst (-1), 1) := by decide +kernel
theorem dX12_nothing_9 : decode cX12_nothing 9 = .ok (.iastore, 1) := by decide +kernel
theorem dX12_nothing_10 : decode cX12_nothing 10 = .ok (.return_, 1) := by decide +kernel
end
section
theorem sUp_2 (f : Nat → sE) {a b : Nat} (x y z : sE) (h : a ≠ b) : sUp (sUp (sUp f a x) b y) a z = sUp (sUp f a z) b y := by
  funext j
  simp only [sUp]
  by_cases h1 : j = a
  · subst h1; simp [h]
  · by_cases h2 : j = b
    · subst h2; simp [h1]
    · simp [h1, h2]
theorem sUp_self {f : Nat → sE} {a : Nat} {x : sE} (h : f a = x) : sUp f a x = f := by
  funext j
  simp only [sUp]
  split
  next e => subst e; exact h.symm
  next => rfl
/-- every fortieth place of the first i rows is -1 -/
def sStr (i : Nat) (f : Nat → Value) : Nat → Value := fun j => if j % 40 = 0 ∧ j < 40 * i then .int (-1) else f j
theorem sStr_0 (f : Nat → Value) : sStr 0 f = f := by funext j; simp [sStr]
theorem sStr_up (i : Nat) (f : Nat → Value) : updV (sStr i f) (40 * i) (.int (-1)) = sStr (i + 1) f := by
  funext j
  simp only [updV, sStr]
  by_cases h : j = 40 * i
  · subst h; rw [if_pos rfl, if_pos (by omega)]
  · rw [if_neg h]
    by_cases h2 : j % 40 = 0 ∧ j < 40 * i
    · rw [if_pos h2, if_pos (by omega)]
    · rw [if_neg h2, if_neg (by omega)]
theorem lv_to {lv : List (Nat × Value)} {i : Nat} {v : Value} (h : sGet i lv = some v) : ∀ q ∈ [(i, v)], q ∈ lv := fun q hq => by rw [List.mem_singleton.mp hq]; exact sGet_mem h
theorem lv_to2 {lv : List (Nat × Value)} {i j : Nat} {v w : Value} (h : sGet i lv = some v) (h2 : sGet j lv = some w) : ∀ q ∈ [(i, v), (j, w)], q ∈ lv := fun q hq => by
  rcases List.mem_cons.mp hq with rfl | hq
  · exact sGet_mem h
  · rw [List.mem_singleton.mp hq]; exact sGet_mem h2
section LPS
variable {l : Launch} {D : va_G} {c : Nat → ClassId} {H0 : Heap} {sa : Nat × Nat × (Nat → Int32)} {R : Room} {Z : sZT} {hn : Nat} {hf : Nat → sE} {mo ra rb ce sl : Nat} {fs : List Value} {lv : List (Nat × Value)} {A B : Nat → Value}
theorem lp_routes_a (hm : Nat.ble (mo + 1) hn = true) (ha : Nat.ble (ra + 1) hn = true) (hmo : hf mo = .inr (12, fs)) (hv : vp_V fs 32 = .ref ra) (hne : mo ≠ ra) (hR : Nat.ble 2 R.frames = true ∧ Nat.ble 100 R.locals = true) (hc : ce ≤ R.cells ∧ sl ≤ R.slots)
    (kk : sV (gG l D c H0 sa) mX12_init R Z 740 [(0, .ref mo)] [] (hn, sUp hf ra (.inl (0, 84000, sStr 1400 A))) ce sl) :
    ∀ (k i : Nat), i + k = 1400 → ∀ lv : List (Nat × Value), sGet 0 lv = some (.ref mo) → sGet 1 lv = some (.int (nI i)) → sV (gG l D c H0 sa) mX12_init R Z 722 lv [] (hn, sUp hf ra (.inl (0, 84000, sStr i A))) ce sl := by
  intro k
  induction k with
  | zero =>
    intro i hi lv h0 h1
    have : i = 1400 := by omega
    subst this
    refine sv_iload_n (pc := 722) dX12_init_722 rfl h1 ?_
    refine sv_sipush (pc := 723) (v := 1400) dX12_init_723 (by decide) ?_
    refine sv_icmp_ge (pc := 726) (tgt := 740) dX12_init_726 (by decide) (fun _ => ?_) (fun h => absurd (by decide) h)
    exact sv_lv (lv_to h0) kk
  | succ k ih =>
    intro i hi lv h0 h1
    have hi4 : i < 1400 := by omega
    refine sv_iload_n (pc := 722) dX12_init_722 rfl h1 ?_
    refine sv_sipush (pc := 723) (v := 1400) dX12_init_723 (by decide) ?_
    refine sv_icmp_ge (pc := 726) (tgt := 740) dX12_init_726 (by decide) (fun h => absurd h (nI_ge hi4 (by decide))) (fun _ => ?_)
    refine sv_aload_n (pc := 729) dX12_init_729 rfl h0 ?_
    refine sv_iload_n (pc := 730) dX12_init_730 rfl h1 ?_
    refine sv_callV (pc := 731) (M' := mX12_nothing) (d' := 1) (C' := 0) (S' := 0) (av := [.int (nI i)]) (Q' := fun r hp' => r = none ∧ hp' = (hn, sUp hf ra (.inl (0, 84000, sStr (i + 1) A)))) ?_ (gOk _ _ _ _ _) dX12_init_731 (tX12_nothing _ _ _ _ _) ⟨wV_X12_nothing, wL_X12_nothing⟩ wM_X12_539 (gCX12 _ _ _ _ _) rfl (lt_t hm) (by show sUp hf ra _ mo = _; rw [sUp_ne _ _ hne]; exact hmo) ⟨le_t hR.1, Nat.le_trans (le_t rfl) (le_t hR.2)⟩ ⟨hc.1, hc.2⟩ rfl (le_t rfl) ?_
    · refine sC.of rfl (by decide) (le_t rfl) ?_
      refine sv_aload_n (pc := 0) dX12_nothing_0 rfl rfl ?_
      refine sw_getfield (pc := 1) dX12_nothing_1 (gCX12 _ _ _ _ _) 32 (by decide) wF_X12_148 hm (by rw [sUp_ne _ _ hne]; exact hmo) hv ?_
      refine sv_bipush (pc := 4) (v := nI 40) dX12_nothing_4 (by decide) ?_
      refine sv_iload_n (pc := 6) dX12_nothing_6 rfl rfl ?_
      refine sw_imul (pc := 7) dX12_nothing_7 (pk_mul 40 i) ?_
      refine sv_iconst (pc := 8) (v := -1) dX12_nothing_8 (by decide) ?_
      refine sw_iastore (pc := 9) (k := 40 * i) (kd := 0) (n := 84000) (f := sStr i A) (cA := c 0) (v := .int (-1)) dX12_nothing_9 rfl ha (sUp_at _ _ _) (nI_clamp (by omega)) (nI_pos (by omega)) (by rw [Nat.ble_eq]; omega) rfl ?_
      rw [sStr_up, sUp_sUp]
      exact sv_vret (pc := 10) dX12_nothing_10 rfl (Nat.le_refl _) (Nat.le_refl _) ⟨rfl, rfl⟩
    · rintro _ _ ⟨rfl, rfl⟩
      refine sv_iincK (pc := 734) (k := 1) dX12_init_734 (by decide) h1 (by decide) ?_
      refine sv_goto (pc := 737) (tgt := 722) dX12_init_737 (by decide) ?_
      rw [nI_1]
      exact ih (i + 1) (by omega) _ (sGet_keep h0 (by decide)) sGet_new
theorem lp_routes (hm : Nat.ble (mo + 1) hn = true) (ha : Nat.ble (ra + 1) hn = true) (hmo : hf mo = .inr (12, fs)) (hv : vp_V fs 32 = .ref ra) (hra : hf ra = .inl (0, 84000, A)) (hne : mo ≠ ra) (hR : Nat.ble 2 R.frames = true ∧ Nat.ble 100 R.locals = true) (hc : ce ≤ R.cells ∧ sl ≤ R.slots) (h0 : sGet 0 lv = some (.ref mo)) (h1 : sGet 1 lv = some (.int (nI 0)))
    (kk : sV (gG l D c H0 sa) mX12_init R Z 740 [(0, .ref mo)] [] (hn, sUp hf ra (.inl (0, 84000, sStr 1400 A))) ce sl) : sV (gG l D c H0 sa) mX12_init R Z 722 lv [] (hn, hf) ce sl := by
  have := lp_routes_a (A := A) hm ha hmo hv hne hR hc kk 1400 0 (by omega) lv h0 h1
  rw [sStr_0, sUp_self hra] at this
  exact this

theorem lp_events_a (hm : Nat.ble (mo + 1) hn = true) (ha : Nat.ble (ra + 1) hn = true) (hb : Nat.ble (rb + 1) hn = true) (hmo : hf mo = .inr (12, fs)) (hva : vp_V fs 77 = .ref ra) (hvb : vp_V fs 79 = .ref rb) (hne : mo ≠ ra) (hne2 : mo ≠ rb) (hab : ra ≠ rb)
    (kk : sV (gG l D c H0 sa) mX12_init R Z 769 [(0, .ref mo)] [] (hn, sUp (sUp hf ra (.inl (0, 400, sFill 400 (.int (-1)) A))) rb (.inl (0, 400, sFill 400 (.int (-1)) B))) ce sl) :
    ∀ (k i : Nat), i + k = 400 → ∀ lv : List (Nat × Value), sGet 0 lv = some (.ref mo) → sGet 1 lv = some (.int (nI i)) → sV (gG l D c H0 sa) mX12_init R Z 742 lv [] (hn, sUp (sUp hf ra (.inl (0, 400, sFill i (.int (-1)) A))) rb (.inl (0, 400, sFill i (.int (-1)) B))) ce sl := by
  intro k
  induction k with
  | zero =>
    intro i hi lv h0 h1
    have : i = 400 := by omega
    subst this
    refine sv_iload_n (pc := 742) dX12_init_742 rfl h1 ?_
    refine sv_sipush (pc := 743) (v := 400) dX12_init_743 (by decide) ?_
    refine sv_icmp_ge (pc := 746) (tgt := 769) dX12_init_746 (by decide) (fun _ => ?_) (fun h => absurd (by decide) h)
    exact sv_lv (lv_to h0) kk
  | succ k ih =>
    intro i hi lv h0 h1
    have hi4 : i < 400 := by omega
    refine sv_iload_n (pc := 742) dX12_init_742 rfl h1 ?_
    refine sv_sipush (pc := 743) (v := 400) dX12_init_743 (by decide) ?_
    refine sv_icmp_ge (pc := 746) (tgt := 769) dX12_init_746 (by decide) (fun h => absurd h (nI_ge hi4 (by decide))) (fun _ => ?_)
    refine sv_aload_n (pc := 749) dX12_init_749 rfl h0 ?_
    refine sw_getfield (pc := 750) dX12_init_750 (gCX12 _ _ _ _ _) 77 (by decide) wF_X12_433 hm (by rw [sUp_ne _ _ hne2, sUp_ne _ _ hne]; exact hmo) hva ?_
    refine sv_iload_n (pc := 753) dX12_init_753 rfl h1 ?_
    refine sv_iconst (pc := 754) (v := -1) dX12_init_754 (by decide) ?_
    refine sw_iastore (pc := 755) (k := i) (kd := 0) (n := 400) (f := sFill i (.int (-1)) A) (cA := c 0) (v := .int (-1)) dX12_init_755 rfl ha (by rw [sUp_ne _ _ hab]; exact sUp_at _ _ _) (nI_clamp (by omega)) (nI_pos (by omega)) (by rw [Nat.ble_eq]; omega) rfl ?_
    rw [sFill_up, sUp_2 _ _ _ _ hab]
    refine sv_aload_n (pc := 756) dX12_init_756 rfl h0 ?_
    refine sw_getfield (pc := 757) dX12_init_757 (gCX12 _ _ _ _ _) 79 (by decide) wF_X12_439 hm (by rw [sUp_ne _ _ hne2, sUp_ne _ _ hne]; exact hmo) hvb ?_
    refine sv_iload_n (pc := 760) dX12_init_760 rfl h1 ?_
    refine sv_iconst (pc := 761) (v := -1) dX12_init_761 (by decide) ?_
    refine sw_iastore (pc := 762) (k := i) (kd := 0) (n := 400) (f := sFill i (.int (-1)) B) (cA := c 0) (v := .int (-1)) dX12_init_762 rfl hb (sUp_at _ _ _) (nI_clamp (by omega)) (nI_pos (by omega)) (by rw [Nat.ble_eq]; omega) rfl ?_
    rw [sFill_up, sUp_sUp]
    refine sv_iincK (pc := 763) (k := 1) dX12_init_763 (by decide) h1 (by decide) ?_
    refine sv_goto (pc := 766) (tgt := 742) dX12_init_766 (by decide) ?_
    rw [nI_1]
    exact ih (i + 1) (by omega) _ (sGet_keep h0 (by decide)) sGet_new
theorem lp_events (hm : Nat.ble (mo + 1) hn = true) (ha : Nat.ble (ra + 1) hn = true) (hb : Nat.ble (rb + 1) hn = true) (hmo : hf mo = .inr (12, fs)) (hva : vp_V fs 77 = .ref ra) (hvb : vp_V fs 79 = .ref rb) (hra : hf ra = .inl (0, 400, A)) (hrb : hf rb = .inl (0, 400, B)) (hne : mo ≠ ra) (hne2 : mo ≠ rb) (hab : ra ≠ rb) (h0 : sGet 0 lv = some (.ref mo)) (h1 : sGet 1 lv = some (.int (nI 0)))
    (kk : sV (gG l D c H0 sa) mX12_init R Z 769 [(0, .ref mo)] [] (hn, sUp (sUp hf ra (.inl (0, 400, sFill 400 (.int (-1)) A))) rb (.inl (0, 400, sFill 400 (.int (-1)) B))) ce sl) : sV (gG l D c H0 sa) mX12_init R Z 742 lv [] (hn, hf) ce sl := by
  have := lp_events_a (A := A) (B := B) hm ha hb hmo hva hvb hne hne2 hab kk 400 0 (by omega) lv h0 h1
  rw [sFill_0, sFill_0, sUp_self hra, sUp_self hrb] at this
  exact this

theorem lp_picks_a (hm : Nat.ble (mo + 1) hn = true) (ha : Nat.ble (ra + 1) hn = true) (hb : Nat.ble (rb + 1) hn = true) (hmo : hf mo = .inr (12, fs)) (hva : vp_V fs 81 = .ref ra) (hvb : vp_V fs 82 = .ref rb) (hne : mo ≠ ra) (hne2 : mo ≠ rb) (hab : ra ≠ rb)
    (kk : sV (gG l D c H0 sa) mX12_init R Z 798 [(0, .ref mo)] [] (hn, sUp (sUp hf ra (.inl (0, 100, sFill 100 (.int (-99999999)) A))) rb (.inl (0, 100, sFill 100 (.int (-1)) B))) ce sl) :
    ∀ (k i : Nat), i + k = 100 → ∀ lv : List (Nat × Value), sGet 0 lv = some (.ref mo) → sGet 1 lv = some (.int (nI i)) → sV (gG l D c H0 sa) mX12_init R Z 771 lv [] (hn, sUp (sUp hf ra (.inl (0, 100, sFill i (.int (-99999999)) A))) rb (.inl (0, 100, sFill i (.int (-1)) B))) ce sl := by
  intro k
  induction k with
  | zero =>
    intro i hi lv h0 h1
    have : i = 100 := by omega
    subst this
    refine sv_iload_n (pc := 771) dX12_init_771 rfl h1 ?_
    refine sv_bipush (pc := 772) (v := 100) dX12_init_772 (by decide) ?_
    refine sv_icmp_ge (pc := 774) (tgt := 798) dX12_init_774 (by decide) (fun _ => ?_) (fun h => absurd (by decide) h)
    exact sv_lv (lv_to h0) kk
  | succ k ih =>
    intro i hi lv h0 h1
    have hi4 : i < 100 := by omega
    refine sv_iload_n (pc := 771) dX12_init_771 rfl h1 ?_
    refine sv_bipush (pc := 772) (v := 100) dX12_init_772 (by decide) ?_
    refine sv_icmp_ge (pc := 774) (tgt := 798) dX12_init_774 (by decide) (fun h => absurd h (nI_ge hi4 (by decide))) (fun _ => ?_)
    refine sv_aload_n (pc := 777) dX12_init_777 rfl h0 ?_
    refine sw_getfield (pc := 778) dX12_init_778 (gCX12 _ _ _ _ _) 81 (by decide) wF_X12_445 hm (by rw [sUp_ne _ _ hne2, sUp_ne _ _ hne]; exact hmo) hva ?_
    refine sv_iload_n (pc := 781) dX12_init_781 rfl h1 ?_
    refine sv_ldc (pc := 782) dX12_init_782 wG_X12_29 ?_
    refine sw_iastore (pc := 784) (k := i) (kd := 0) (n := 100) (f := sFill i (.int (-99999999)) A) (cA := c 0) (v := .int (-99999999)) dX12_init_784 rfl ha (by rw [sUp_ne _ _ hab]; exact sUp_at _ _ _) (nI_clamp (by omega)) (nI_pos (by omega)) (by rw [Nat.ble_eq]; omega) rfl ?_
    rw [sFill_up, sUp_2 _ _ _ _ hab]
    refine sv_aload_n (pc := 785) dX12_init_785 rfl h0 ?_
    refine sw_getfield (pc := 786) dX12_init_786 (gCX12 _ _ _ _ _) 82 (by decide) wF_X12_448 hm (by rw [sUp_ne _ _ hne2, sUp_ne _ _ hne]; exact hmo) hvb ?_
    refine sv_iload_n (pc := 789) dX12_init_789 rfl h1 ?_
    refine sv_iconst (pc := 790) (v := -1) dX12_init_790 (by decide) ?_
    refine sw_iastore (pc := 791) (k := i) (kd := 0) (n := 100) (f := sFill i (.int (-1)) B) (cA := c 0) (v := .int (-1)) dX12_init_791 rfl hb (sUp_at _ _ _) (nI_clamp (by omega)) (nI_pos (by omega)) (by rw [Nat.ble_eq]; omega) rfl ?_
    rw [sFill_up, sUp_sUp]
    refine sv_iincK (pc := 792) (k := 1) dX12_init_792 (by decide) h1 (by decide) ?_
    refine sv_goto (pc := 795) (tgt := 771) dX12_init_795 (by decide) ?_
    rw [nI_1]
    exact ih (i + 1) (by omega) _ (sGet_keep h0 (by decide)) sGet_new
theorem lp_picks (hm : Nat.ble (mo + 1) hn = true) (ha : Nat.ble (ra + 1) hn = true) (hb : Nat.ble (rb + 1) hn = true) (hmo : hf mo = .inr (12, fs)) (hva : vp_V fs 81 = .ref ra) (hvb : vp_V fs 82 = .ref rb) (hra : hf ra = .inl (0, 100, A)) (hrb : hf rb = .inl (0, 100, B)) (hne : mo ≠ ra) (hne2 : mo ≠ rb) (hab : ra ≠ rb) (h0 : sGet 0 lv = some (.ref mo)) (h1 : sGet 1 lv = some (.int (nI 0)))
    (kk : sV (gG l D c H0 sa) mX12_init R Z 798 [(0, .ref mo)] [] (hn, sUp (sUp hf ra (.inl (0, 100, sFill 100 (.int (-99999999)) A))) rb (.inl (0, 100, sFill 100 (.int (-1)) B))) ce sl) : sV (gG l D c H0 sa) mX12_init R Z 771 lv [] (hn, hf) ce sl := by
  have := lp_picks_a (A := A) (B := B) hm ha hb hmo hva hvb hne hne2 hab kk 100 0 (by omega) lv h0 h1
  rw [sFill_0, sFill_0, sUp_self hra, sUp_self hrb] at this
  exact this

theorem lp_next_a (hm : Nat.ble (mo + 1) hn = true) {rc rd : Nat} {Cc Dd : Nat → Int32} (hmo : hf mo = .inr (12, fs)) (hva : vp_V fs 77 = .ref ra) (hvb : vp_V fs 79 = .ref rb) (hvc : vp_V fs 78 = .ref rc) (hvd : vp_V fs 80 = .ref rd) (ha : Nat.ble (ra + 1) hn = true) (hb : Nat.ble (rb + 1) hn = true) (hc : Nat.ble (rc + 1) hn = true) (hd : Nat.ble (rd + 1) hn = true) (hra : hf ra = .inl (0, 400, A)) (hrb : hf rb = .inl (0, 400, B)) (hrc : hf rc = .inl (0, 400, sI Cc)) (hrd : hf rd = .inl (0, 400, sI Dd)) (hA : ∀ j, j < 400 → A j = .int (-1)) (hB : ∀ j, j < 400 → B j = .int (-1))
    (kk : Z = Z → sV (gG l D c H0 sa) mX12_nextEvent R Z 133 [(0, .ref mo)] [.int (-99999999)] (hn, hf) ce sl) :
    ∀ (k i : Nat), i + k = 800 → ∀ lv : List (Nat × Value), sGet 0 lv = some (.ref mo) → sGet 1 lv = some (.int (-99999999)) → sGet 4 lv = some (.int (nI i)) → sV (gG l D c H0 sa) mX12_nextEvent R Z 10 lv [] (hn, hf) ce sl := by
  intro k
  induction k with
  | zero =>
    intro i hi lv h0 h1 h4
    have : i = 800 := by omega
    subst this
    refine sv_iload (pc := 10) dX12_nextEvent_10 h4 ?_
    refine sv_sipush (pc := 12) (v := 800) dX12_nextEvent_12 (by decide) ?_
    refine sv_icmp_ge (pc := 15) (tgt := 132) dX12_nextEvent_15 (by decide) (fun _ => ?_) (fun h => absurd (by decide) h)
    refine sv_iload_n (pc := 132) dX12_nextEvent_132 rfl h1 ?_
    exact sv_lv (lv_to h0) (kk rfl)
  | succ k ih =>
    intro i hi lv h0 h1 h4
    have hi4 : i < 800 := by omega
    refine sv_iload (pc := 10) dX12_nextEvent_10 h4 ?_
    refine sv_sipush (pc := 12) (v := 800) dX12_nextEvent_12 (by decide) ?_
    refine sv_icmp_ge (pc := 15) (tgt := 132) dX12_nextEvent_15 (by decide) (fun h => absurd h (nI_ge hi4 (by decide))) (fun _ => ?_)
    have tail : ∀ m5 : Int32, ∀ lv : List (Nat × Value), sGet 0 lv = some (.ref mo) → sGet 1 lv = some (.int (-99999999)) → sGet 4 lv = some (.int (nI i)) → sGet 5 lv = some (.int (-1)) → sV (gG l D c H0 sa) mX12_nextEvent R Z 78 lv [.int m5] (hn, hf) ce sl := by
      intro m5 lv h0 h1 h4 h5
      refine sv_istore (pc := 78) dX12_nextEvent_78 (by decide) ?_
      refine sv_iload (pc := 80) dX12_nextEvent_80 (sGet_keep h5 (by decide)) ?_
      refine sv_if_lt (pc := 82) (tgt := 126) dX12_nextEvent_82 (by decide) (fun _ => ?_) (fun h => absurd (by decide) h)
      refine sv_iincK (pc := 126) (k := 1) dX12_nextEvent_126 (by decide) (sGet_keep h4 (by decide)) (by decide) ?_
      refine sv_goto (pc := 129) (tgt := 10) dX12_nextEvent_129 (by decide) ?_
      rw [nI_1]
      exact ih (i + 1) (by omega) _ (sGet_keep (sGet_keep h0 (by decide)) (by decide)) (sGet_keep (sGet_keep h1 (by decide)) (by decide)) sGet_new
    have mid : ∀ lv : List (Nat × Value), sGet 0 lv = some (.ref mo) → sGet 1 lv = some (.int (-99999999)) → sGet 4 lv = some (.int (nI i)) → sV (gG l D c H0 sa) mX12_nextEvent R Z 47 lv [.int (-1)] (hn, hf) ce sl := by
      intro lv h0 h1 h4
      refine sv_istore (pc := 47) dX12_nextEvent_47 (by decide) ?_
      have h0 := sGet_keep (i := 5) (v := .int (-1)) h0 (by decide)
      have h1 := sGet_keep (i := 5) (v := .int (-1)) h1 (by decide)
      have h4 := sGet_keep (i := 5) (v := .int (-1)) h4 (by decide)
      refine sv_iload (pc := 49) dX12_nextEvent_49 h4 ?_
      refine sv_sipush (pc := 51) (v := nI 400) dX12_nextEvent_51 (by decide) ?_
      refine sv_icmp_ge (pc := 54) (tgt := 67) dX12_nextEvent_54 (by decide) (fun h => ?_) (fun h => ?_)
      · have h4i : 400 ≤ i := (nI_leI (by omega) (by omega)).mp h
        refine sv_aload_n (pc := 67) dX12_nextEvent_67 rfl h0 ?_
        refine sw_getfield (pc := 68) dX12_nextEvent_68 (gCX12 _ _ _ _ _) 80 (by decide) wF_X12_442 hm hmo hvd ?_
        refine sv_iload (pc := 71) dX12_nextEvent_71 h4 ?_
        refine sv_sipush (pc := 73) (v := nI 400) dX12_nextEvent_73 (by decide) ?_
        refine sw_isub (pc := 76) dX12_nextEvent_76 (pk_sub h4i) ?_
        refine sw_iaload (pc := 77) (k := i - 400) (v := .int (Dd (i - 400))) (cA := c 0) dX12_nextEvent_77 rfl hd hrd (nI_clamp (by omega)) (nI_pos (by omega)) (by rw [Nat.ble_eq]; omega) rfl ?_
        exact tail _ _ h0 h1 h4 sGet_new
      · have h4i : i < 400 := Nat.not_le.mp (fun q => h ((nI_leI (by omega) (by omega)).mpr q))
        refine sv_aload_n (pc := 57) dX12_nextEvent_57 rfl h0 ?_
        refine sw_getfield (pc := 58) dX12_nextEvent_58 (gCX12 _ _ _ _ _) 78 (by decide) wF_X12_436 hm hmo hvc ?_
        refine sv_iload (pc := 61) dX12_nextEvent_61 h4 ?_
        refine sw_iaload (pc := 63) (k := i) (v := .int (Cc i)) (cA := c 0) dX12_nextEvent_63 rfl hc hrc (nI_clamp (by omega)) (nI_pos (by omega)) (by rw [Nat.ble_eq]; omega) rfl ?_
        refine sv_goto (pc := 64) (tgt := 78) dX12_nextEvent_64 (by decide) ?_
        exact tail _ _ h0 h1 h4 sGet_new
    refine sv_iload (pc := 18) dX12_nextEvent_18 h4 ?_
    refine sv_sipush (pc := 20) (v := nI 400) dX12_nextEvent_20 (by decide) ?_
    refine sv_icmp_ge (pc := 23) (tgt := 36) dX12_nextEvent_23 (by decide) (fun h => ?_) (fun h => ?_)
    · have h4i : 400 ≤ i := (nI_leI (by omega) (by omega)).mp h
      refine sv_aload_n (pc := 36) dX12_nextEvent_36 rfl h0 ?_
      refine sw_getfield (pc := 37) dX12_nextEvent_37 (gCX12 _ _ _ _ _) 79 (by decide) wF_X12_439 hm hmo hvb ?_
      refine sv_iload (pc := 40) dX12_nextEvent_40 h4 ?_
      refine sv_sipush (pc := 42) (v := nI 400) dX12_nextEvent_42 (by decide) ?_
      refine sw_isub (pc := 45) dX12_nextEvent_45 (pk_sub h4i) ?_
      refine sw_iaload (pc := 46) (k := i - 400) (v := .int (-1)) (cA := c 0) dX12_nextEvent_46 rfl hb hrb (nI_clamp (by omega)) (nI_pos (by omega)) (by rw [Nat.ble_eq]; omega) (hB _ (by omega)) ?_
      exact mid _ h0 h1 h4
    · have h4i : i < 400 := Nat.not_le.mp (fun q => h ((nI_leI (by omega) (by omega)).mpr q))
      refine sv_aload_n (pc := 26) dX12_nextEvent_26 rfl h0 ?_
      refine sw_getfield (pc := 27) dX12_nextEvent_27 (gCX12 _ _ _ _ _) 77 (by decide) wF_X12_433 hm hmo hva ?_
      refine sv_iload (pc := 30) dX12_nextEvent_30 h4 ?_
      refine sw_iaload (pc := 32) (k := i) (v := .int (-1)) (cA := c 0) dX12_nextEvent_32 rfl ha hra (nI_clamp (by omega)) (nI_pos (by omega)) (by rw [Nat.ble_eq]; omega) (hA _ h4i) ?_
      refine sv_goto (pc := 33) (tgt := 47) dX12_nextEvent_33 (by decide) ?_
      exact mid _ h0 h1 h4
theorem lp_count_a (hm : Nat.ble (mo + 1) hn = true) (hmo : hf mo = .inr (12, fs)) (hva : vp_V fs 77 = .ref ra) (hvb : vp_V fs 79 = .ref rb) (ha : Nat.ble (ra + 1) hn = true) (hb : Nat.ble (rb + 1) hn = true) (hra : hf ra = .inl (0, 400, A)) (hrb : hf rb = .inl (0, 400, B)) (hA : ∀ j, j < 400 → A j = .int (-1)) (hB : ∀ j, j < 400 → B j = .int (-1)) {x : Value} (hx : x.category = 1)
    (kk : sV (gG l D c H0 sa) mX12_count R Z 49 [(0, .ref mo), (1, x), (2, .int 0)] [] (hn, hf) ce sl) :
    ∀ (k i : Nat), i + k = 400 → ∀ lv : List (Nat × Value), sGet 0 lv = some (.ref mo) → sGet 1 lv = some x → sGet 2 lv = some (.int 0) → sGet 3 lv = some (.int (nI i)) → sV (gG l D c H0 sa) mX12_count R Z 4 lv [] (hn, hf) ce sl := by
  intro k
  induction k with
  | zero =>
    intro i hi lv h0 h1 h2 h3
    have : i = 400 := by omega
    subst this
    refine sv_iload_n (pc := 4) dX12_count_4 rfl h3 ?_
    refine sv_sipush (pc := 5) (v := 400) dX12_count_5 (by decide) ?_
    refine sv_icmp_ge (pc := 8) (tgt := 49) dX12_count_8 (by decide) (fun _ => ?_) (fun h => absurd (by decide) h)
    exact sv_lv (fun q hq => by
      rcases List.mem_cons.mp hq with rfl | hq
      · exact sGet_mem h0
      rcases List.mem_cons.mp hq with rfl | hq
      · exact sGet_mem h1
      · rw [List.mem_singleton.mp hq]; exact sGet_mem h2) kk
  | succ k ih =>
    intro i hi lv h0 h1 h2 h3
    have hi4 : i < 400 := by omega
    refine sv_iload_n (pc := 4) dX12_count_4 rfl h3 ?_
    refine sv_sipush (pc := 5) (v := 400) dX12_count_5 (by decide) ?_
    refine sv_icmp_ge (pc := 8) (tgt := 49) dX12_count_8 (by decide) (fun h => absurd h (nI_ge hi4 (by decide))) (fun _ => ?_)
    refine sv_iload_n (pc := 11) dX12_count_11 rfl h2 ?_
    refine sv_aload_n (pc := 12) dX12_count_12 rfl h0 ?_
    refine sw_getfield (pc := 13) dX12_count_13 (gCX12 _ _ _ _ _) 77 (by decide) wF_X12_433 hm hmo hva ?_
    refine sv_iload_n (pc := 16) dX12_count_16 rfl h3 ?_
    refine sw_iaload (pc := 17) (k := i) (v := .int (-1)) (cA := c 0) dX12_count_17 rfl ha hra (nI_clamp (by omega)) (nI_pos (by omega)) (by rw [Nat.ble_eq]; omega) (hA _ hi4) ?_
    refine sv_if_lt (pc := 18) (tgt := 25) dX12_count_18 (by decide) (fun _ => ?_) (fun h => absurd (by decide) h)
    refine sv_iconst (pc := 25) (v := 0) dX12_count_25 (by decide) ?_
    refine sv_aload_n (pc := 26) dX12_count_26 rfl h0 ?_
    refine sw_getfield (pc := 27) dX12_count_27 (gCX12 _ _ _ _ _) 79 (by decide) wF_X12_439 hm hmo hvb ?_
    refine sv_iload_n (pc := 30) dX12_count_30 rfl h3 ?_
    refine sw_iaload (pc := 31) (k := i) (v := .int (-1)) (cA := c 0) dX12_count_31 rfl hb hrb (nI_clamp (by omega)) (nI_pos (by omega)) (by rw [Nat.ble_eq]; omega) (hB _ hi4) ?_
    refine sv_if_lt (pc := 32) (tgt := 39) dX12_count_32 (by decide) (fun _ => ?_) (fun h => absurd (by decide) h)
    refine sv_iconst (pc := 39) (v := 0) dX12_count_39 (by decide) ?_
    refine sw_iadd (pc := 40) (v := 0) dX12_count_40 (by decide) ?_
    refine sw_iadd (pc := 41) (v := 0) dX12_count_41 (by decide) ?_
    refine sv_istore_n (pc := 42) dX12_count_42 rfl (by decide) ?_
    refine sv_iincK (pc := 43) (k := 1) dX12_count_43 (by decide) (sGet_keep h3 (by decide)) (by decide) ?_
    refine sv_goto (pc := 46) (tgt := 4) dX12_count_46 (by decide) ?_
    rw [nI_1]
    exact ih (i + 1) (by omega) _ (sGet_keep (sGet_keep h0 (by decide)) (by decide)) (sGet_keep (sGet_keep h1 (by decide) hx) (by decide) hx) (sGet_keep sGet_new (by decide)) sGet_new
theorem lp_seen_a (hm : Nat.ble (mo + 1) hn = true) (ha : Nat.ble (ra + 1) hn = true) (hmo : hf mo = .inr (12, fs)) (hva : vp_V fs 94 = .ref ra) (hne : mo ≠ ra)
    (kk : sV (gG l D c H0 sa) mX12_message R Z 43 [(0, .ref mo)] [] (hn, sUp hf ra (.inl (3, 256, sFill 256 (.int 0) A))) ce sl) :
    ∀ (k i : Nat), i + k = 256 → ∀ lv : List (Nat × Value), sGet 0 lv = some (.ref mo) → sGet 1 lv = some (.int (nI i)) → sV (gG l D c H0 sa) mX12_message R Z 23 lv [] (hn, sUp hf ra (.inl (3, 256, sFill i (.int 0) A))) ce sl := by
  intro k
  induction k with
  | zero =>
    intro i hi lv h0 h1
    have : i = 256 := by omega
    subst this
    refine sv_iload_n (pc := 23) dX12_message_23 rfl h1 ?_
    refine sv_sipush (pc := 24) (v := 256) dX12_message_24 (by decide) ?_
    refine sv_icmp_ge (pc := 27) (tgt := 43) dX12_message_27 (by decide) (fun _ => ?_) (fun h => absurd (by decide) h)
    exact sv_lv (lv_to h0) kk
  | succ k ih =>
    intro i hi lv h0 h1
    have hi4 : i < 256 := by omega
    refine sv_iload_n (pc := 23) dX12_message_23 rfl h1 ?_
    refine sv_sipush (pc := 24) (v := 256) dX12_message_24 (by decide) ?_
    refine sv_icmp_ge (pc := 27) (tgt := 43) dX12_message_27 (by decide) (fun h => absurd h (nI_ge hi4 (by decide))) (fun _ => ?_)
    refine sv_aload_n (pc := 30) dX12_message_30 rfl h0 ?_
    refine sw_getfield (pc := 31) dX12_message_31 (gCX12 _ _ _ _ _) 94 (by decide) wF_X12_475 hm (by rw [sUp_ne _ _ hne]; exact hmo) hva ?_
    refine sv_iload_n (pc := 34) dX12_message_34 rfl h1 ?_
    refine sv_iconst (pc := 35) (v := 0) dX12_message_35 (by decide) ?_
    refine sw_zastore (pc := 36) (k := i) (kd := 3) (n := 256) (f := sFill i (.int 0) A) (cA := c 3) (v := .int 0) dX12_message_36 rfl ha (sUp_at _ _ _) (nI_clamp (by omega)) (nI_pos (by omega)) (by rw [Nat.ble_eq]; omega) (by decide) ?_
    rw [sFill_up, sUp_sUp]
    refine sv_iincK (pc := 37) (k := 1) dX12_message_37 (by decide) h1 (by decide) ?_
    refine sv_goto (pc := 40) (tgt := 23) dX12_message_40 (by decide) ?_
    rw [nI_1]
    exact ih (i + 1) (by omega) _ (sGet_keep h0 (by decide)) sGet_new
theorem lp_seen (hm : Nat.ble (mo + 1) hn = true) (ha : Nat.ble (ra + 1) hn = true) (hmo : hf mo = .inr (12, fs)) (hva : vp_V fs 94 = .ref ra) (hra : hf ra = .inl (3, 256, A)) (hne : mo ≠ ra) (h0 : sGet 0 lv = some (.ref mo)) (h1 : sGet 1 lv = some (.int (nI 0)))
    (kk : sV (gG l D c H0 sa) mX12_message R Z 43 [(0, .ref mo)] [] (hn, sUp hf ra (.inl (3, 256, sFill 256 (.int 0) A))) ce sl) : sV (gG l D c H0 sa) mX12_message R Z 23 lv [] (hn, hf) ce sl := by
  have := lp_seen_a (A := A) hm ha hmo hva hne kk 256 0 (by omega) lv h0 h1
  rw [sFill_0, sUp_self hra] at this
  exact this
end LPS
end
section
theorem dX12_init_0 : decode cX12_init 0 = .ok (.aload_n 0, 1) := by decide +kernel
theorem dX12_init_1 : decode cX12_init 1 = .ok (.invokespecial 418, 3) := by decide +kernel
theorem dX12_init_4 : decode cX12_init 4 = .ok (.aload_n 0, 1) := by decide +kernel
theorem dX12_init_5 : decode cX12_init 5 = .ok (.sipush 1000, 3) := by decide +kernel
theorem dX12_init_8 : decode cX12_init 8 = .ok (.newarray .byte, 2) := by decide +kernel
theorem dX12_init_10 : decode cX12_init 10 = .ok (.putfield 7, 3) := by decide +kernel
theorem dX12_init_13 : decode cX12_init 13 = .ok (.aload_n 0, 1) := by decide +kernel
theorem dX12_init_14 : decode cX12_init 14 = .ok (.bipush 10, 2) := by decide +kernel
theorem dX12_init_16 : decode cX12_init 16 = .ok (.newarray .int, 2) := by decide +kernel
theorem dX12_init_18 : decode cX12_init 18 = .ok (.putfield 22, 3) := by decide +kernel
theorem dX12_init_21 : decode cX12_init 21 = .ok (.aload_n 0, 1) := by decide +kernel
theorem dX12_init_22 : decode cX12_init 22 = .ok (.bipush 10, 2) := by decide +kernel
theorem dX12_init_24 : decode cX12_init 24 = .ok (.newarray .int, 2) := by decide +kernel
theorem dX12_init_26 : decode cX12_init 26 = .ok (.putfield 26, 3) := by decide +kernel
theorem dX12_init_29 : decode cX12_init 29 = .ok (.aload_n 0, 1) := by decide +kernel
theorem dX12_init_30 : decode cX12_init 30 = .ok (.bipush 40, 2) := by decide +kernel
theorem dX12_init_32 : decode cX12_init 32 = .ok (.newarray .int, 2) := by decide +kernel
theorem dX12_init_34 : decode cX12_init 34 = .ok (.putfield 40, 3) := by decide +kernel
theorem dX12_init_37 : decode cX12_init 37 = .ok (.aload_n 0, 1) := by decide +kernel
theorem dX12_init_38 : decode cX12_init 38 = .ok (.bipush 20, 2) := by decide +kernel
theorem dX12_init_40 : decode cX12_init 40 = .ok (.newarray .int, 2) := by decide +kernel
theorem dX12_init_42 : decode cX12_init 42 = .ok (.putfield 46, 3) := by decide +kernel
theorem dX12_init_45 : decode cX12_init 45 = .ok (.aload_n 0, 1) := by decide +kernel
theorem dX12_init_46 : decode cX12_init 46 = .ok (.bipush 20, 2) := by decide +kernel
theorem dX12_init_48 : decode cX12_init 48 = .ok (.newarray .boolean, 2) := by decide +kernel
theorem dX12_init_50 : decode cX12_init 50 = .ok (.putfield 53, 3) := by decide +kernel
theorem dX12_init_53 : decode cX12_init 53 = .ok (.aload_n 0, 1) := by decide +kernel
theorem dX12_init_54 : decode cX12_init 54 = .ok (.bipush 20, 2) := by decide +kernel
theorem dX12_init_56 : decode cX12_init 56 = .ok (.newarray .int, 2) := by decide +kernel
theorem dX12_init_58 : decode cX12_init 58 = .ok (.putfield 57, 3) := by decide +kernel
theorem dX12_init_61 : decode cX12_init 61 = .ok (.aload_n 0, 1) := by decide +kernel
theorem dX12_init_62 : decode cX12_init 62 = .ok (.bipush 20, 2) := by decide +kernel
theorem dX12_init_64 : decode cX12_init 64 = .ok (.newarray .int, 2) := by decide +kernel
theorem dX12_init_66 : decode cX12_init 66 = .ok (.putfield 60, 3) := by decide +kernel
theorem dX12_init_69 : decode cX12_init 69 = .ok (.aload_n 0, 1) := by decide +kernel
theorem dX12_init_70 : decode cX12_init 70 = .ok (.bipush 80, 2) := by decide +kernel
theorem dX12_init_72 : decode cX12_init 72 = .ok (.newarray .int, 2) := by decide +kernel
theorem dX12_init_74 : decode cX12_init 74 = .ok (.putfield 63, 3) := by decide +kernel
theorem dX12_init_77 : decode cX12_init 77 = .ok (.aload_n 0, 1) := by decide +kernel
theorem dX12_init_78 : decode cX12_init 78 = .ok (.bipush 10, 2) := by decide +kernel
theorem dX12_init_80 : decode cX12_init 80 = .ok (.newarray .boolean, 2) := by decide +kernel
theorem dX12_init_82 : decode cX12_init 82 = .ok (.putfield 69, 3) := by decide +kernel
theorem dX12_init_85 : decode cX12_init 85 = .ok (.aload_n 0, 1) := by decide +kernel
theorem dX12_init_86 : decode cX12_init 86 = .ok (.bipush 10, 2) := by decide +kernel
theorem dX12_init_88 : decode cX12_init 88 = .ok (.newarray .int, 2) := by decide +kernel
theorem dX12_init_90 : decode cX12_init 90 = .ok (.putfield 72, 3) := by decide +kernel
theorem dX12_init_93 : decode cX12_init 93 = .ok (.aload_n 0, 1) := by decide +kernel
theorem dX12_init_94 : decode cX12_init 94 = .ok (.bipush 20, 2) := by decide +kernel
theorem dX12_init_96 : decode cX12_init 96 = .ok (.newarray .int, 2) := by decide +kernel
theorem dX12_init_98 : decode cX12_init 98 = .ok (.putfield 82, 3) := by decide +kernel
theorem dX12_init_101 : decode cX12_init 101 = .ok (.aload_n 0, 1) := by decide +kernel
theorem dX12_init_102 : decode cX12_init 102 = .ok (.bipush 30, 2) := by decide +kernel
theorem dX12_init_104 : decode cX12_init 104 = .ok (.newarray .int, 2) := by decide +kernel
theorem dX12_init_106 : decode cX12_init 106 = .ok (.putfield 98, 3) := by decide +kernel
theorem dX12_init_109 : decode cX12_init 109 = .ok (.aload_n 0, 1) := by decide +kernel
theorem dX12_init_110 : decode cX12_init 110 = .ok (.bipush 30, 2) := by decide +kernel
theorem dX12_init_112 : decode cX12_init 112 = .ok (.newarray .int, 2) := by decide +kernel
theorem dX12_init_114 : decode cX12_init 114 = .ok (.putfield 101, 3) := by decide +kernel
theorem dX12_init_117 : decode cX12_init 117 = .ok (.aload_n 0, 1) := by decide +kernel
theorem dX12_init_118 : decode cX12_init 118 = .ok (.bipush 30, 2) := by decide +kernel
theorem dX12_init_120 : decode cX12_init 120 = .ok (.newarray .int, 2) := by decide +kernel
theorem dX12_init_122 : decode cX12_init 122 = .ok (.putfield 104, 3) := by decide +kernel
theorem dX12_init_125 : decode cX12_init 125 = .ok (.aload_n 0, 1) := by decide +kernel
theorem dX12_init_126 : decode cX12_init 126 = .ok (.bipush 30, 2) := by decide +kernel
theorem dX12_init_128 : decode cX12_init 128 = .ok (.newarray .int, 2) := by decide +kernel
theorem dX12_init_130 : decode cX12_init 130 = .ok (.putfield 107, 3) := by decide +kernel
theorem dX12_init_133 : decode cX12_init 133 = .ok (.aload_n 0, 1) := by decide +kernel
theorem dX12_init_134 : decode cX12_init 134 = .ok (.bipush 30, 2) := by decide +kernel
theorem dX12_init_136 : decode cX12_init 136 = .ok (.newarray .int, 2) := by decide +kernel
theorem dX12_init_138 : decode cX12_init 138 = .ok (.putfield 110, 3) := by decide +kernel
theorem dX12_init_141 : decode cX12_init 141 = .ok (.aload_n 0, 1) := by decide +kernel
theorem dX12_init_142 : decode cX12_init 142 = .ok (.bipush 30, 2) := by decide +kernel
theorem dX12_init_144 : decode cX12_init 144 = .ok (.newarray .int, 2) := by decide +kernel
theorem dX12_init_146 : decode cX12_init 146 = .ok (.putfield 113, 3) := by decide +kernel
theorem dX12_init_149 : decode cX12_init 149 = .ok (.aload_n 0, 1) := by decide +kernel
theorem dX12_init_150 : decode cX12_init 150 = .ok (.bipush 30, 2) := by decide +kernel
theorem dX12_init_152 : decode cX12_init 152 = .ok (.newarray .int, 2) := by decide +kernel
theorem dX12_init_154 : decode cX12_init 154 = .ok (.putfield 116, 3) := by decide +kernel
theorem dX12_init_157 : decode cX12_init 157 = .ok (.aload_n 0, 1) := by decide +kernel
theorem dX12_init_158 : decode cX12_init 158 = .ok (.ldc_w 423, 3) := by decide +kernel
theorem dX12_init_161 : decode cX12_init 161 = .ok (.newarray .int, 2) := by decide +kernel
theorem dX12_init_163 : decode cX12_init 163 = .ok (.putfield 148, 3) := by decide +kernel
theorem dX12_init_166 : decode cX12_init 166 = .ok (.aload_n 0, 1) := by decide +kernel
theorem dX12_init_167 : decode cX12_init 167 = .ok (.bipush 13, 2) := by decide +kernel
theorem dX12_init_169 : decode cX12_init 169 = .ok (.newarray .int, 2) := by decide +kernel
theorem dX12_init_171 : decode cX12_init 171 = .ok (.putfield 358, 3) := by decide +kernel
theorem dX12_init_174 : decode cX12_init 174 = .ok (.aload_n 0, 1) := by decide +kernel
theorem dX12_init_175 : decode cX12_init 175 = .ok (.sipush 403, 3) := by decide +kernel
theorem dX12_init_178 : decode cX12_init 178 = .ok (.newarray .int, 2) := by decide +kernel
theorem dX12_init_180 : decode cX12_init 180 = .ok (.putfield 361, 3) := by decide +kernel
theorem dX12_init_183 : decode cX12_init 183 = .ok (.aload_n 0, 1) := by decide +kernel
theorem dX12_init_184 : decode cX12_init 184 = .ok (.sipush 403, 3) := by decide +kernel
theorem dX12_init_187 : decode cX12_init 187 = .ok (.newarray .int, 2) := by decide +kernel
theorem dX12_init_189 : decode cX12_init 189 = .ok (.putfield 364, 3) := by decide +kernel
theorem dX12_init_192 : decode cX12_init 192 = .ok (.aload_n 0, 1) := by decide +kernel
theorem dX12_init_193 : decode cX12_init 193 = .ok (.bipush 13, 2) := by decide +kernel
theorem dX12_init_195 : decode cX12_init 195 = .ok (.newarray .int, 2) := by decide +kernel
theorem dX12_init_197 : decode cX12_init 197 = .ok (.putfield 320, 3) := by decide +kernel
theorem dX12_init_200 : decode cX12_init 200 = .ok (.aload_n 0, 1) := by decide +kernel
theorem dX12_init_201 : decode cX12_init 201 = .ok (.bipush 13, 2) := by decide +kernel
theorem dX12_init_203 : decode cX12_init 203 = .ok (.newarray .int, 2) := by decide +kernel
theorem dX12_init_205 : decode cX12_init 205 = .ok (.putfield 346, 3) := by decide +kernel
theorem dX12_init_208 : decode cX12_init 208 = .ok (.aload_n 0, 1) := by decide +kernel
theorem dX12_init_209 : decode cX12_init 209 = .ok (.sipush 3900, 3) := by decide +kernel
theorem dX12_init_212 : decode cX12_init 212 = .ok (.newarray .int, 2) := by decide +kernel
theorem dX12_init_214 : decode cX12_init 214 = .ok (.putfield 323, 3) := by decide +kernel
theorem dX12_init_217 : decode cX12_init 217 = .ok (.aload_n 0, 1) := by decide +kernel
theorem dX12_init_218 : decode cX12_init 218 = .ok (.sipush 3900, 3) := by decide +kernel
theorem dX12_init_221 : decode cX12_init 221 = .ok (.newarray .boolean, 2) := by decide +kernel
theorem dX12_init_223 : decode cX12_init 223 = .ok (.putfield 326, 3) := by decide +kernel
theorem dX12_init_226 : decode cX12_init 226 = .ok (.aload_n 0, 1) := by decide +kernel
theorem dX12_init_227 : decode cX12_init 227 = .ok (.sipush 3900, 3) := by decide +kernel
theorem dX12_init_230 : decode cX12_init 230 = .ok (.newarray .int, 2) := by decide +kernel
theorem dX12_init_232 : decode cX12_init 232 = .ok (.putfield 329, 3) := by decide +kernel
theorem dX12_init_235 : decode cX12_init 235 = .ok (.aload_n 0, 1) := by decide +kernel
theorem dX12_init_236 : decode cX12_init 236 = .ok (.sipush 3900, 3) := by decide +kernel
theorem dX12_init_239 : decode cX12_init 239 = .ok (.newarray .int, 2) := by decide +kernel
theorem dX12_init_241 : decode cX12_init 241 = .ok (.putfield 336, 3) := by decide +kernel
theorem dX12_init_244 : decode cX12_init 244 = .ok (.aload_n 0, 1) := by decide +kernel
theorem dX12_init_245 : decode cX12_init 245 = .ok (.sipush 3900, 3) := by decide +kernel
theorem dX12_init_248 : decode cX12_init 248 = .ok (.newarray .int, 2) := by decide +kernel
theorem dX12_init_250 : decode cX12_init 250 = .ok (.putfield 339, 3) := by decide +kernel
theorem dX12_init_253 : decode cX12_init 253 = .ok (.aload_n 0, 1) := by decide +kernel
theorem dX12_init_254 : decode cX12_init 254 = .ok (.sipush 3900, 3) := by decide +kernel
theorem dX12_init_257 : decode cX12_init 257 = .ok (.newarray .long, 2) := by decide +kernel
theorem dX12_init_259 : decode cX12_init 259 = .ok (.putfield 305, 3) := by decide +kernel
theorem dX12_init_262 : decode cX12_init 262 = .ok (.aload_n 0, 1) := by decide +kernel
theorem dX12_init_263 : decode cX12_init 263 = .ok (.sipush 3900, 3) := by decide +kernel
theorem dX12_init_266 : decode cX12_init 266 = .ok (.newarray .long, 2) := by decide +kernel
theorem dX12_init_268 : decode cX12_init 268 = .ok (.putfield 308, 3) := by decide +kernel
theorem dX12_init_271 : decode cX12_init 271 = .ok (.aload_n 0, 1) := by decide +kernel
theorem dX12_init_272 : decode cX12_init 272 = .ok (.sipush 3900, 3) := by decide +kernel
theorem dX12_init_275 : decode cX12_init 275 = .ok (.newarray .boolean, 2) := by decide +kernel
theorem dX12_init_277 : decode cX12_init 277 = .ok (.putfield 311, 3) := by decide +kernel
theorem dX12_init_280 : decode cX12_init 280 = .ok (.aload_n 0, 1) := by decide +kernel
theorem dX12_init_281 : decode cX12_init 281 = .ok (.sipush 3900, 3) := by decide +kernel
theorem dX12_init_284 : decode cX12_init 284 = .ok (.newarray .int, 2) := by decide +kernel
theorem dX12_init_286 : decode cX12_init 286 = .ok (.putfield 349, 3) := by decide +kernel
theorem dX12_init_289 : decode cX12_init 289 = .ok (.aload_n 0, 1) := by decide +kernel
theorem dX12_init_290 : decode cX12_init 290 = .ok (.sipush 3900, 3) := by decide +kernel
theorem dX12_init_293 : decode cX12_init 293 = .ok (.newarray .int, 2) := by decide +kernel
theorem dX12_init_295 : decode cX12_init 295 = .ok (.putfield 352, 3) := by decide +kernel
theorem dX12_init_298 : decode cX12_init 298 = .ok (.aload_n 0, 1) := by decide +kernel
theorem dX12_init_299 : decode cX12_init 299 = .ok (.bipush 13, 2) := by decide +kernel
theorem dX12_init_301 : decode cX12_init 301 = .ok (.newarray .int, 2) := by decide +kernel
theorem dX12_init_303 : decode cX12_init 303 = .ok (.putfield 292, 3) := by decide +kernel
theorem dX12_init_306 : decode cX12_init 306 = .ok (.aload_n 0, 1) := by decide +kernel
theorem dX12_init_307 : decode cX12_init 307 = .ok (.sipush 533, 3) := by decide +kernel
theorem dX12_init_310 : decode cX12_init 310 = .ok (.newarray .int, 2) := by decide +kernel
theorem dX12_init_312 : decode cX12_init 312 = .ok (.putfield 295, 3) := by decide +kernel
theorem dX12_init_315 : decode cX12_init 315 = .ok (.aload_n 0, 1) := by decide +kernel
theorem dX12_init_316 : decode cX12_init 316 = .ok (.sipush 533, 3) := by decide +kernel
theorem dX12_init_319 : decode cX12_init 319 = .ok (.newarray .long, 2) := by decide +kernel
theorem dX12_init_321 : decode cX12_init 321 = .ok (.putfield 275, 3) := by decide +kernel
theorem dX12_init_324 : decode cX12_init 324 = .ok (.aload_n 0, 1) := by decide +kernel
theorem dX12_init_325 : decode cX12_init 325 = .ok (.bipush 10, 2) := by decide +kernel
theorem dX12_init_327 : decode cX12_init 327 = .ok (.newarray .long, 2) := by decide +kernel
theorem dX12_init_329 : decode cX12_init 329 = .ok (.putfield 250, 3) := by decide +kernel
theorem dX12_init_332 : decode cX12_init 332 = .ok (.aload_n 0, 1) := by decide +kernel
theorem dX12_init_333 : decode cX12_init 333 = .ok (.bipush 10, 2) := by decide +kernel
theorem dX12_init_335 : decode cX12_init 335 = .ok (.newarray .long, 2) := by decide +kernel
theorem dX12_init_337 : decode cX12_init 337 = .ok (.putfield 257, 3) := by decide +kernel
theorem dX12_init_340 : decode cX12_init 340 = .ok (.aload_n 0, 1) := by decide +kernel
theorem dX12_init_341 : decode cX12_init 341 = .ok (.bipush 10, 2) := by decide +kernel
theorem dX12_init_343 : decode cX12_init 343 = .ok (.newarray .boolean, 2) := by decide +kernel
theorem dX12_init_345 : decode cX12_init 345 = .ok (.putfield 260, 3) := by decide +kernel
theorem dX12_init_348 : decode cX12_init 348 = .ok (.aload_n 0, 1) := by decide +kernel
theorem dX12_init_349 : decode cX12_init 349 = .ok (.bipush 10, 2) := by decide +kernel
theorem dX12_init_351 : decode cX12_init 351 = .ok (.newarray .long, 2) := by decide +kernel
theorem dX12_init_353 : decode cX12_init 353 = .ok (.putfield 266, 3) := by decide +kernel
theorem dX12_init_356 : decode cX12_init 356 = .ok (.aload_n 0, 1) := by decide +kernel
theorem dX12_init_357 : decode cX12_init 357 = .ok (.bipush 10, 2) := by decide +kernel
theorem dX12_init_359 : decode cX12_init 359 = .ok (.newarray .long, 2) := by decide +kernel
theorem dX12_init_361 : decode cX12_init 361 = .ok (.putfield 269, 3) := by decide +kernel
theorem dX12_init_364 : decode cX12_init 364 = .ok (.aload_n 0, 1) := by decide +kernel
theorem dX12_init_365 : decode cX12_init 365 = .ok (.bipush 10, 2) := by decide +kernel
theorem dX12_init_367 : decode cX12_init 367 = .ok (.newarray .boolean, 2) := by decide +kernel
theorem dX12_init_369 : decode cX12_init 369 = .ok (.putfield 272, 3) := by decide +kernel
theorem dX12_init_372 : decode cX12_init 372 = .ok (.aload_n 0, 1) := by decide +kernel
theorem dX12_init_373 : decode cX12_init 373 = .ok (.bipush 14, 2) := by decide +kernel
theorem dX12_init_375 : decode cX12_init 375 = .ok (.newarray .int, 2) := by decide +kernel
theorem dX12_init_377 : decode cX12_init 377 = .ok (.putfield 388, 3) := by decide +kernel
theorem dX12_init_380 : decode cX12_init 380 = .ok (.aload_n 0, 1) := by decide +kernel
theorem dX12_init_381 : decode cX12_init 381 = .ok (.bipush 14, 2) := by decide +kernel
theorem dX12_init_383 : decode cX12_init 383 = .ok (.newarray .int, 2) := by decide +kernel
theorem dX12_init_385 : decode cX12_init 385 = .ok (.putfield 391, 3) := by decide +kernel
theorem dX12_init_388 : decode cX12_init 388 = .ok (.aload_n 0, 1) := by decide +kernel
theorem dX12_init_389 : decode cX12_init 389 = .ok (.bipush 14, 2) := by decide +kernel
theorem dX12_init_391 : decode cX12_init 391 = .ok (.newarray .int, 2) := by decide +kernel
theorem dX12_init_393 : decode cX12_init 393 = .ok (.putfield 394, 3) := by decide +kernel
theorem dX12_init_396 : decode cX12_init 396 = .ok (.aload_n 0, 1) := by decide +kernel
theorem dX12_init_397 : decode cX12_init 397 = .ok (.sipush 400, 3) := by decide +kernel
theorem dX12_init_400 : decode cX12_init 400 = .ok (.newarray .int, 2) := by decide +kernel
theorem dX12_init_402 : decode cX12_init 402 = .ok (.putfield 424, 3) := by decide +kernel
theorem dX12_init_405 : decode cX12_init 405 = .ok (.aload_n 0, 1) := by decide +kernel
theorem dX12_init_406 : decode cX12_init 406 = .ok (.sipush 400, 3) := by decide +kernel
theorem dX12_init_409 : decode cX12_init 409 = .ok (.newarray .boolean, 2) := by decide +kernel
theorem dX12_init_411 : decode cX12_init 411 = .ok (.putfield 427, 3) := by decide +kernel
theorem dX12_init_414 : decode cX12_init 414 = .ok (.aload_n 0, 1) := by decide +kernel
theorem dX12_init_415 : decode cX12_init 415 = .ok (.sipush 400, 3) := by decide +kernel
theorem dX12_init_418 : decode cX12_init 418 = .ok (.newarray .int, 2) := by decide +kernel
theorem dX12_init_420 : decode cX12_init 420 = .ok (.putfield 430, 3) := by decide +kernel
theorem dX12_init_423 : decode cX12_init 423 = .ok (.aload_n 0, 1) := by decide +kernel
theorem dX12_init_424 : decode cX12_init 424 = .ok (.sipush 400, 3) := by decide +kernel
theorem dX12_init_427 : decode cX12_init 427 = .ok (.newarray .int, 2) := by decide +kernel
theorem dX12_init_429 : decode cX12_init 429 = .ok (.putfield 433, 3) := by decide +kernel
theorem dX12_init_432 : decode cX12_init 432 = .ok (.aload_n 0, 1) := by decide +kernel
theorem dX12_init_433 : decode cX12_init 433 = .ok (.sipush 400, 3) := by decide +kernel
theorem dX12_init_436 : decode cX12_init 436 = .ok (.newarray .int, 2) := by decide +kernel
theorem dX12_init_438 : decode cX12_init 438 = .ok (.putfield 436, 3) := by decide +kernel
theorem dX12_init_441 : decode cX12_init 441 = .ok (.aload_n 0, 1) := by decide +kernel
theorem dX12_init_442 : decode cX12_init 442 = .ok (.sipush 400, 3) := by decide +kernel
theorem dX12_init_445 : decode cX12_init 445 = .ok (.newarray .int, 2) := by decide +kernel
theorem dX12_init_447 : decode cX12_init 447 = .ok (.putfield 439, 3) := by decide +kernel
theorem dX12_init_450 : decode cX12_init 450 = .ok (.aload_n 0, 1) := by decide +kernel
theorem dX12_init_451 : decode cX12_init 451 = .ok (.sipush 400, 3) := by decide +kernel
theorem dX12_init_454 : decode cX12_init 454 = .ok (.newarray .int, 2) := by decide +kernel
theorem dX12_init_456 : decode cX12_init 456 = .ok (.putfield 442, 3) := by decide +kernel
theorem dX12_init_459 : decode cX12_init 459 = .ok (.aload_n 0, 1) := by decide +kernel
theorem dX12_init_460 : decode cX12_init 460 = .ok (.bipush 100, 2) := by decide +kernel
theorem dX12_init_462 : decode cX12_init 462 = .ok (.newarray .int, 2) := by decide +kernel
theorem dX12_init_464 : decode cX12_init 464 = .ok (.putfield 445, 3) := by decide +kernel
theorem dX12_init_467 : decode cX12_init 467 = .ok (.aload_n 0, 1) := by decide +kernel
theorem dX12_init_468 : decode cX12_init 468 = .ok (.bipush 100, 2) := by decide +kernel
theorem dX12_init_470 : decode cX12_init 470 = .ok (.newarray .int, 2) := by decide +kernel
theorem dX12_init_472 : decode cX12_init 472 = .ok (.putfield 448, 3) := by decide +kernel
theorem dX12_init_475 : decode cX12_init 475 = .ok (.aload_n 0, 1) := by decide +kernel
theorem dX12_init_476 : decode cX12_init 476 = .ok (.bipush 60, 2) := by decide +kernel
theorem dX12_init_478 : decode cX12_init 478 = .ok (.newarray .int, 2) := by decide +kernel
theorem dX12_init_480 : decode cX12_init 480 = .ok (.putfield 451, 3) := by decide +kernel
theorem dX12_init_483 : decode cX12_init 483 = .ok (.aload_n 0, 1) := by decide +kernel
theorem dX12_init_484 : decode cX12_init 484 = .ok (.bipush 10, 2) := by decide +kernel
theorem dX12_init_486 : decode cX12_init 486 = .ok (.newarray .boolean, 2) := by decide +kernel
theorem dX12_init_488 : decode cX12_init 488 = .ok (.putfield 454, 3) := by decide +kernel
theorem dX12_init_491 : decode cX12_init 491 = .ok (.aload_n 0, 1) := by decide +kernel
theorem dX12_init_492 : decode cX12_init 492 = .ok (.bipush 20, 2) := by decide +kernel
theorem dX12_init_494 : decode cX12_init 494 = .ok (.newarray .boolean, 2) := by decide +kernel
theorem dX12_init_496 : decode cX12_init 496 = .ok (.putfield 457, 3) := by decide +kernel
theorem dX12_init_499 : decode cX12_init 499 = .ok (.aload_n 0, 1) := by decide +kernel
theorem dX12_init_500 : decode cX12_init 500 = .ok (.sipush 1000, 3) := by decide +kernel
theorem dX12_init_503 : decode cX12_init 503 = .ok (.newarray .int, 2) := by decide +kernel
theorem dX12_init_505 : decode cX12_init 505 = .ok (.putfield 460, 3) := by decide +kernel
theorem dX12_init_508 : decode cX12_init 508 = .ok (.aload_n 0, 1) := by decide +kernel
theorem dX12_init_509 : decode cX12_init 509 = .ok (.sipush 1000, 3) := by decide +kernel
theorem dX12_init_512 : decode cX12_init 512 = .ok (.newarray .int, 2) := by decide +kernel
theorem dX12_init_514 : decode cX12_init 514 = .ok (.putfield 463, 3) := by decide +kernel
theorem dX12_init_517 : decode cX12_init 517 = .ok (.aload_n 0, 1) := by decide +kernel
theorem dX12_init_518 : decode cX12_init 518 = .ok (.sipush 1000, 3) := by decide +kernel
theorem dX12_init_521 : decode cX12_init 521 = .ok (.newarray .int, 2) := by decide +kernel
theorem dX12_init_523 : decode cX12_init 523 = .ok (.putfield 466, 3) := by decide +kernel
theorem dX12_init_526 : decode cX12_init 526 = .ok (.aload_n 0, 1) := by decide +kernel
theorem dX12_init_527 : decode cX12_init 527 = .ok (.sipush 1000, 3) := by decide +kernel
theorem dX12_init_530 : decode cX12_init 530 = .ok (.newarray .int, 2) := by decide +kernel
theorem dX12_init_532 : decode cX12_init 532 = .ok (.putfield 469, 3) := by decide +kernel
theorem dX12_init_535 : decode cX12_init 535 = .ok (.aload_n 0, 1) := by decide +kernel
theorem dX12_init_536 : decode cX12_init 536 = .ok (.sipush 400, 3) := by decide +kernel
theorem dX12_init_539 : decode cX12_init 539 = .ok (.newarray .int, 2) := by decide +kernel
theorem dX12_init_541 : decode cX12_init 541 = .ok (.putfield 472, 3) := by decide +kernel
theorem dX12_init_544 : decode cX12_init 544 = .ok (.aload_n 0, 1) := by decide +kernel
theorem dX12_init_545 : decode cX12_init 545 = .ok (.sipush 256, 3) := by decide +kernel
theorem dX12_init_548 : decode cX12_init 548 = .ok (.newarray .boolean, 2) := by decide +kernel
theorem dX12_init_550 : decode cX12_init 550 = .ok (.putfield 475, 3) := by decide +kernel
theorem dX12_init_553 : decode cX12_init 553 = .ok (.aload_n 0, 1) := by decide +kernel
theorem dX12_init_554 : decode cX12_init 554 = .ok (.iconst 4, 1) := by decide +kernel
theorem dX12_init_555 : decode cX12_init 555 = .ok (.newarray .int, 2) := by decide +kernel
theorem dX12_init_557 : decode cX12_init 557 = .ok (.putfield 478, 3) := by decide +kernel
theorem dX12_init_560 : decode cX12_init 560 = .ok (.aload_n 0, 1) := by decide +kernel
theorem dX12_init_561 : decode cX12_init 561 = .ok (.bipush 8, 2) := by decide +kernel
theorem dX12_init_563 : decode cX12_init 563 = .ok (.newarray .int, 2) := by decide +kernel
theorem dX12_init_565 : decode cX12_init 565 = .ok (.putfield 481, 3) := by decide +kernel
theorem dX12_init_568 : decode cX12_init 568 = .ok (.aload_n 0, 1) := by decide +kernel
theorem dX12_init_569 : decode cX12_init 569 = .ok (.sipush 300, 3) := by decide +kernel
theorem dX12_init_572 : decode cX12_init 572 = .ok (.newarray .int, 2) := by decide +kernel
theorem dX12_init_574 : decode cX12_init 574 = .ok (.putfield 484, 3) := by decide +kernel
theorem dX12_init_577 : decode cX12_init 577 = .ok (.aload_n 0, 1) := by decide +kernel
theorem dX12_init_578 : decode cX12_init 578 = .ok (.bipush 12, 2) := by decide +kernel
theorem dX12_init_580 : decode cX12_init 580 = .ok (.newarray .int, 2) := by decide +kernel
theorem dX12_init_582 : decode cX12_init 582 = .ok (.putfield 487, 3) := by decide +kernel
theorem dX12_init_585 : decode cX12_init 585 = .ok (.aload_n 0, 1) := by decide +kernel
theorem dX12_init_586 : decode cX12_init 586 = .ok (.bipush 12, 2) := by decide +kernel
theorem dX12_init_588 : decode cX12_init 588 = .ok (.newarray .int, 2) := by decide +kernel
theorem dX12_init_590 : decode cX12_init 590 = .ok (.putfield 490, 3) := by decide +kernel
theorem dX12_init_593 : decode cX12_init 593 = .ok (.aload_n 0, 1) := by decide +kernel
theorem dX12_init_594 : decode cX12_init 594 = .ok (.bipush 16, 2) := by decide +kernel
theorem dX12_init_596 : decode cX12_init 596 = .ok (.newarray .int, 2) := by decide +kernel
theorem dX12_init_598 : decode cX12_init 598 = .ok (.putfield 493, 3) := by decide +kernel
theorem dX12_init_601 : decode cX12_init 601 = .ok (.aload_n 0, 1) := by decide +kernel
theorem dX12_init_602 : decode cX12_init 602 = .ok (.bipush 16, 2) := by decide +kernel
theorem dX12_init_604 : decode cX12_init 604 = .ok (.newarray .int, 2) := by decide +kernel
theorem dX12_init_606 : decode cX12_init 606 = .ok (.putfield 496, 3) := by decide +kernel
theorem dX12_init_609 : decode cX12_init 609 = .ok (.aload_n 0, 1) := by decide +kernel
theorem dX12_init_610 : decode cX12_init 610 = .ok (.bipush 16, 2) := by decide +kernel
theorem dX12_init_612 : decode cX12_init 612 = .ok (.newarray .int, 2) := by decide +kernel
theorem dX12_init_614 : decode cX12_init 614 = .ok (.putfield 499, 3) := by decide +kernel
theorem dX12_init_617 : decode cX12_init 617 = .ok (.aload_n 0, 1) := by decide +kernel
theorem dX12_init_618 : decode cX12_init 618 = .ok (.sipush 400, 3) := by decide +kernel
theorem dX12_init_621 : decode cX12_init 621 = .ok (.newarray .int, 2) := by decide +kernel
theorem dX12_init_623 : decode cX12_init 623 = .ok (.putfield 502, 3) := by decide +kernel
theorem dX12_init_626 : decode cX12_init 626 = .ok (.aload_n 0, 1) := by decide +kernel
theorem dX12_init_627 : decode cX12_init 627 = .ok (.sipush 400, 3) := by decide +kernel
theorem dX12_init_630 : decode cX12_init 630 = .ok (.newarray .int, 2) := by decide +kernel
theorem dX12_init_632 : decode cX12_init 632 = .ok (.putfield 505, 3) := by decide +kernel
theorem dX12_init_635 : decode cX12_init 635 = .ok (.aload_n 0, 1) := by decide +kernel
theorem dX12_init_636 : decode cX12_init 636 = .ok (.sipush 8800, 3) := by decide +kernel
theorem dX12_init_639 : decode cX12_init 639 = .ok (.newarray .int, 2) := by decide +kernel
theorem dX12_init_641 : decode cX12_init 641 = .ok (.putfield 508, 3) := by decide +kernel
theorem dX12_init_644 : decode cX12_init 644 = .ok (.aload_n 0, 1) := by decide +kernel
theorem dX12_init_645 : decode cX12_init 645 = .ok (.bipush 24, 2) := by decide +kernel
theorem dX12_init_647 : decode cX12_init 647 = .ok (.newarray .long, 2) := by decide +kernel
theorem dX12_init_649 : decode cX12_init 649 = .ok (.putfield 511, 3) := by decide +kernel
theorem dX12_init_652 : decode cX12_init 652 = .ok (.aload_n 0, 1) := by decide +kernel
theorem dX12_init_653 : decode cX12_init 653 = .ok (.bipush 7, 2) := by decide +kernel
theorem dX12_init_655 : decode cX12_init 655 = .ok (.newarray .int, 2) := by decide +kernel
theorem dX12_init_657 : decode cX12_init 657 = .ok (.putfield 514, 3) := by decide +kernel
theorem dX12_init_660 : decode cX12_init 660 = .ok (.aload_n 0, 1) := by decide +kernel
theorem dX12_init_661 : decode cX12_init 661 = .ok (.bipush 35, 2) := by decide +kernel
theorem dX12_init_663 : decode cX12_init 663 = .ok (.newarray .int, 2) := by decide +kernel
theorem dX12_init_665 : decode cX12_init 665 = .ok (.putfield 517, 3) := by decide +kernel
theorem dX12_init_668 : decode cX12_init 668 = .ok (.aload_n 0, 1) := by decide +kernel
theorem dX12_init_669 : decode cX12_init 669 = .ok (.sipush 280, 3) := by decide +kernel
theorem dX12_init_672 : decode cX12_init 672 = .ok (.newarray .int, 2) := by decide +kernel
theorem dX12_init_674 : decode cX12_init 674 = .ok (.putfield 520, 3) := by decide +kernel
theorem dX12_init_677 : decode cX12_init 677 = .ok (.aload_n 0, 1) := by decide +kernel
theorem dX12_init_678 : decode cX12_init 678 = .ok (.bipush 8, 2) := by decide +kernel
theorem dX12_init_680 : decode cX12_init 680 = .ok (.newarray .int, 2) := by decide +kernel
theorem dX12_init_682 : decode cX12_init 682 = .ok (.putfield 523, 3) := by decide +kernel
theorem dX12_init_685 : decode cX12_init 685 = .ok (.aload_n 0, 1) := by decide +kernel
theorem dX12_init_686 : decode cX12_init 686 = .ok (.bipush 7, 2) := by decide +kernel
theorem dX12_init_688 : decode cX12_init 688 = .ok (.newarray .int, 2) := by decide +kernel
theorem dX12_init_690 : decode cX12_init 690 = .ok (.putfield 526, 3) := by decide +kernel
theorem dX12_init_693 : decode cX12_init 693 = .ok (.aload_n 0, 1) := by decide +kernel
theorem dX12_init_694 : decode cX12_init 694 = .ok (.ldc_w 529, 3) := by decide +kernel
theorem dX12_init_697 : decode cX12_init 697 = .ok (.newarray .int, 2) := by decide +kernel
theorem dX12_init_699 : decode cX12_init 699 = .ok (.putfield 530, 3) := by decide +kernel
theorem dX12_init_702 : decode cX12_init 702 = .ok (.aload_n 0, 1) := by decide +kernel
theorem dX12_init_703 : decode cX12_init 703 = .ok (.ldc_w 529, 3) := by decide +kernel
theorem dX12_init_706 : decode cX12_init 706 = .ok (.newarray .int, 2) := by decide +kernel
theorem dX12_init_708 : decode cX12_init 708 = .ok (.putfield 533, 3) := by decide +kernel
theorem dX12_init_711 : decode cX12_init 711 = .ok (.aload_n 0, 1) := by decide +kernel
theorem dX12_init_712 : decode cX12_init 712 = .ok (.ldc_w 529, 3) := by decide +kernel
theorem dX12_init_715 : decode cX12_init 715 = .ok (.newarray .boolean, 2) := by decide +kernel
theorem dX12_init_717 : decode cX12_init 717 = .ok (.putfield 536, 3) := by decide +kernel
theorem dX12_init_720 : decode cX12_init 720 = .ok (.iconst 0, 1) := by decide +kernel
theorem dX12_init_721 : decode cX12_init 721 = .ok (.istore_n 1, 1) := by decide +kernel
theorem dX12_init_740 : decode cX12_init 740 = .ok (.iconst 0, 1) := by decide +kernel
theorem dX12_init_741 : decode cX12_init 741 = .ok (.istore_n 1, 1) := by decide +kernel
theorem dX12_init_769 : decode cX12_init 769 = .ok (.iconst 0, 1) := by decide +kernel
theorem dX12_init_770 : decode cX12_init 770 = .ok (.istore_n 1, 1) := by decide +kernel
theorem dX12_init_798 : decode cX12_init 798 = .ok (.iconst 0, 1) := by decide +kernel
theorem dX12_init_799 : decode cX12_init 799 = .ok (.istore_n 1, 1) := by decide +kernel
theorem dX12_init_800 : decode cX12_init 800 = .ok (.iload_n 1, 1) := by decide +kernel
theorem dX12_init_801 : decode cX12_init 801 = .ok (.bipush 10, 2) := by decide +kernel
theorem dX12_init_803 : decode cX12_init 803 = .ok (.if_icmp .ge 36, 3) := by decide +kernel
theorem dX12_init_806 : decode cX12_init 806 = .ok (.iconst 0, 1) := by decide +kernel
theorem dX12_init_807 : decode cX12_init 807 = .ok (.istore_n 2, 1) := by decide +kernel
theorem dX12_init_808 : decode cX12_init 808 = .ok (.iload_n 2, 1) := by decide +kernel
theorem dX12_init_809 : decode cX12_init 809 = .ok (.iconst 5, 1) := by decide +kernel
theorem dX12_init_810 : decode cX12_init 810 = .ok (.if_icmp .ge 23, 3) := by decide +kernel
theorem dX12_init_813 : decode cX12_init 813 = .ok (.aload_n 0, 1) := by decide +kernel
theorem dX12_init_814 : decode cX12_init 814 = .ok (.getfield 451, 3) := by decide +kernel
theorem dX12_init_817 : decode cX12_init 817 = .ok (.bipush 6, 2) := by decide +kernel
theorem dX12_init_819 : decode cX12_init 819 = .ok (.iload_n 1, 1) := by decide +kernel
theorem dX12_init_820 : decode cX12_init 820 = .ok (.imul, 1) := by decide +kernel
theorem dX12_init_821 : decode cX12_init 821 = .ok (.iload_n 2, 1) := by decide +kernel
theorem dX12_init_822 : decode cX12_init 822 = .ok (.iadd, 1) := by decide +kernel
theorem dX12_init_823 : decode cX12_init 823 = .ok (.iload_n 2, 1) := by decide +kernel
theorem dX12_init_824 : decode cX12_init 824 = .ok (.iconst 1, 1) := by decide +kernel
theorem dX12_init_825 : decode cX12_init 825 = .ok (.iadd, 1) := by decide +kernel
theorem dX12_init_826 : decode cX12_init 826 = .ok (.iastore, 1) := by decide +kernel
theorem dX12_init_827 : decode cX12_init 827 = .ok (.iinc 2 1, 3) := by decide +kernel
theorem dX12_init_830 : decode cX12_init 830 = .ok (.goto (-22), 3) := by decide +kernel
theorem dX12_init_833 : decode cX12_init 833 = .ok (.iinc 1 1, 3) := by decide +kernel
theorem dX12_init_836 : decode cX12_init 836 = .ok (.goto (-36), 3) := by decide +kernel
theorem dX12_init_839 : decode cX12_init 839 = .ok (.aload_n 0, 1) := by decide +kernel
theorem dX12_init_840 : decode cX12_init 840 = .ok (.iconst 0, 1) := by decide +kernel
theorem dX12_init_841 : decode cX12_init 841 = .ok (.invokevirtual 539, 3) := by decide +kernel
theorem dX12_init_844 : decode cX12_init 844 = .ok (.return_, 1) := by decide +kernel
end
section
/-- the cells of a new DomainHouse and a new DomainHouseModel behind it -/
def tM : Nat → sE := fun j => match j with
  | 0 => .inr (12, [.ref 107, .int 0, .int 0, .ref 108, .ref 109, .int 0, .int 0, .ref 110, .ref 111, .ref 112, .ref 113, .ref 114, .ref 115, .ref 116, .ref 117, .int 0, .ref 118, .int 0, .int 0, .ref 119, .ref 120, .ref 121, .ref 122, .ref 123, .ref 124, .ref 125, .int 0, .int 0, .int 0, .int 0, .int 0, .int 0, .ref 126, .int 0, .int 0, .int 0, .int 0, .int 0, .int 0, .int 0, .ref 127, .ref 128, .ref 129, .ref 130, .ref 131, .ref 132, .ref 133, .ref 134, .ref 135, .ref 136, .ref 137, .ref 138, .ref 139, .ref 140, .ref 141, .ref 142, .ref 143, .ref 144, .int 0, .int 0, .ref 145, .ref 146, .ref 147, .ref 148, .ref 149, .ref 150, .int 0, .ref 151, .ref 152, .ref 153, .int 0, .int 0, .int 0, .int 0, .ref 154, .ref 155, .ref 156, .ref 157, .ref 158, .ref 159, .ref 160, .ref 161, .ref 162, .ref 163, .ref 164, .ref 165, .ref 166, .ref 167, .int 0, .ref 168, .ref 169, .int 0, .ref 170, .int 0, .ref 171, .ref 172, .int 0, .int 0, .int 0, .int 0, .ref 173, .int 0, .int 0, .ref 174, .int 0, .ref 175, .int 0, .ref 176, .int 0, .int 0, .ref 177, .ref 178, .ref 179, .ref 180, .ref 181, .ref 182, .int 0, .ref 183, .ref 184, .ref 185, .ref 186, .ref 187, .ref 188, .ref 189, .ref 190, .ref 191])
  | 1 => .inl (2, 1000, fun _ => .int 0)
  | 2 => .inl (0, 10, fun _ => .int 0)
  | 3 => .inl (0, 10, fun _ => .int 0)
  | 4 => .inl (0, 40, fun _ => .int 0)
  | 5 => .inl (0, 20, fun _ => .int 0)
  | 6 => .inl (3, 20, fun _ => .int 0)
  | 7 => .inl (0, 20, fun _ => .int 0)
  | 8 => .inl (0, 20, fun _ => .int 0)
  | 9 => .inl (0, 80, fun _ => .int 0)
  | 10 => .inl (3, 10, fun _ => .int 0)
  | 11 => .inl (0, 10, fun _ => .int 0)
  | 12 => .inl (0, 20, fun _ => .int 0)
  | 13 => .inl (0, 30, fun _ => .int 0)
  | 14 => .inl (0, 30, fun _ => .int 0)
  | 15 => .inl (0, 30, fun _ => .int 0)
  | 16 => .inl (0, 30, fun _ => .int 0)
  | 17 => .inl (0, 30, fun _ => .int 0)
  | 18 => .inl (0, 30, fun _ => .int 0)
  | 19 => .inl (0, 30, fun _ => .int 0)
  | 20 => .inl (0, 84000, updV (sStr 1400 (fun _ => .int 0)) 0 (.int (-1)))
  | 21 => .inl (0, 13, fun _ => .int 0)
  | 22 => .inl (0, 403, fun _ => .int 0)
  | 23 => .inl (0, 403, fun _ => .int 0)
  | 24 => .inl (0, 13, fun _ => .int 0)
  | 25 => .inl (0, 13, fun _ => .int 0)
  | 26 => .inl (0, 3900, fun _ => .int 0)
  | 27 => .inl (3, 3900, fun _ => .int 0)
  | 28 => .inl (0, 3900, fun _ => .int 0)
  | 29 => .inl (0, 3900, fun _ => .int 0)
  | 30 => .inl (0, 3900, fun _ => .int 0)
  | 31 => .inl (1, 3900, fun _ => .long 0)
  | 32 => .inl (1, 3900, fun _ => .long 0)
  | 33 => .inl (3, 3900, fun _ => .int 0)
  | 34 => .inl (0, 3900, fun _ => .int 0)
  | 35 => .inl (0, 3900, fun _ => .int 0)
  | 36 => .inl (0, 13, fun _ => .int 0)
  | 37 => .inl (0, 533, fun _ => .int 0)
  | 38 => .inl (1, 533, fun _ => .long 0)
  | 39 => .inl (1, 10, fun _ => .long 0)
  | 40 => .inl (1, 10, fun _ => .long 0)
  | 41 => .inl (3, 10, fun _ => .int 0)
  | 42 => .inl (1, 10, fun _ => .long 0)
  | 43 => .inl (1, 10, fun _ => .long 0)
  | 44 => .inl (3, 10, fun _ => .int 0)
  | 45 => .inl (0, 14, fun _ => .int 0)
  | 46 => .inl (0, 14, fun _ => .int 0)
  | 47 => .inl (0, 14, fun _ => .int 0)
  | 48 => .inl (0, 400, fun _ => .int 0)
  | 49 => .inl (3, 400, fun _ => .int 0)
  | 50 => .inl (0, 400, fun _ => .int 0)
  | 51 => .inl (0, 400, sFill 400 (.int (-1)) (fun _ => .int 0))
  | 52 => .inl (0, 400, fun _ => .int 0)
  | 53 => .inl (0, 400, sFill 400 (.int (-1)) (fun _ => .int 0))
  | 54 => .inl (0, 400, fun _ => .int 0)
  | 55 => .inl (0, 100, sFill 100 (.int (-99999999)) (fun _ => .int 0))
  | 56 => .inl (0, 100, sFill 100 (.int (-1)) (fun _ => .int 0))
  | 57 => .inl (0, 60, updV (updV (updV (updV (updV (updV (updV (updV (updV (updV (updV (updV (updV (updV (updV (updV (updV (updV (updV (updV (updV (updV (updV (updV (updV (updV (updV (updV (updV (updV (updV (updV (updV (updV (updV (updV (updV (updV (updV (updV (updV (updV (updV (updV (updV (updV (updV (updV (updV (updV (fun _ => .int 0) 0 (.int 1)) 1 (.int 2)) 2 (.int 3)) 3 (.int 4)) 4 (.int 5)) 6 (.int 1)) 7 (.int 2)) 8 (.int 3)) 9 (.int 4)) 10 (.int 5)) 12 (.int 1)) 13 (.int 2)) 14 (.int 3)) 15 (.int 4)) 16 (.int 5)) 18 (.int 1)) 19 (.int 2)) 20 (.int 3)) 21 (.int 4)) 22 (.int 5)) 24 (.int 1)) 25 (.int 2)) 26 (.int 3)) 27 (.int 4)) 28 (.int 5)) 30 (.int 1)) 31 (.int 2)) 32 (.int 3)) 33 (.int 4)) 34 (.int 5)) 36 (.int 1)) 37 (.int 2)) 38 (.int 3)) 39 (.int 4)) 40 (.int 5)) 42 (.int 1)) 43 (.int 2)) 44 (.int 3)) 45 (.int 4)) 46 (.int 5)) 48 (.int 1)) 49 (.int 2)) 50 (.int 3)) 51 (.int 4)) 52 (.int 5)) 54 (.int 1)) 55 (.int 2)) 56 (.int 3)) 57 (.int 4)) 58 (.int 5))
  | 58 => .inl (3, 10, fun _ => .int 0)
  | 59 => .inl (3, 20, fun _ => .int 0)
  | 60 => .inl (0, 1000, fun _ => .int 0)
  | 61 => .inl (0, 1000, fun _ => .int 0)
  | 62 => .inl (0, 1000, fun _ => .int 0)
  | 63 => .inl (0, 1000, fun _ => .int 0)
  | 64 => .inl (0, 400, fun _ => .int 0)
  | 65 => .inl (3, 256, fun _ => .int 0)
  | 66 => .inl (0, 4, fun _ => .int 0)
  | 67 => .inl (0, 8, fun _ => .int 0)
  | 68 => .inl (0, 300, fun _ => .int 0)
  | 69 => .inl (0, 12, fun _ => .int 0)
  | 70 => .inl (0, 12, fun _ => .int 0)
  | 71 => .inl (0, 16, fun _ => .int 0)
  | 72 => .inl (0, 16, fun _ => .int 0)
  | 73 => .inl (0, 16, fun _ => .int 0)
  | 74 => .inl (0, 400, fun _ => .int 0)
  | 75 => .inl (0, 400, fun _ => .int 0)
  | 76 => .inl (0, 8800, fun _ => .int 0)
  | 77 => .inl (1, 24, fun _ => .long 0)
  | 78 => .inl (0, 7, fun _ => .int 0)
  | 79 => .inl (0, 35, fun _ => .int 0)
  | 80 => .inl (0, 280, fun _ => .int 0)
  | 81 => .inl (0, 8, fun _ => .int 0)
  | 82 => .inl (0, 7, fun _ => .int 0)
  | 83 => .inl (0, 46656, fun _ => .int 0)
  | 84 => .inl (0, 46656, fun _ => .int 0)
  | 85 => .inl (3, 46656, fun _ => .int 0)
  | _ => .inr (0, [])
def tF : Nat → sE := fun j => if j < 106 then tC j else tM (j - 106)
set_option maxHeartbeats 40000000 in
set_option maxRecDepth 100000 in
theorem ctorM (l : Launch) (D : va_G) (c : Nat → ClassId) (H0 : Heap) (sa : Nat × Nat × (Nat → Int32)) : sC (gG l D c H0 sa) mX12_init 20 85 284555 [.ref 106] (107, sUp tC 106 (.inr (12, zX12))) (fun r hp => r = none ∧ hp.1 = 192 ∧ ∀ j, j < 192 → hp.2 j = tF j) := by
  refine sC.of rfl (by decide) (le_t rfl) ?_
  refine sv_aload_n (pc := 0) dX12_init_0 rfl rfl ?_
  refine sv_objinit (pc := 1) dX12_init_1 wM_X12_418 wV_obj wK_obj ⟨le_t rfl, le_t rfl⟩ (le_t rfl) ?_
  refine sv_aload_n (pc := 4) dX12_init_4 rfl rfl ?_
  refine sv_sipush (pc := 5) (v := 1000) dX12_init_5 (by decide) ?_
  refine sw_newarray (pc := 8) (kd := 2) (a := 107) (n1 := 108) (N := 1000) (ce1 := 1) (sl1 := 1000) (v := .int 0) dX12_init_8 rfl wA_byte rfl (fun U => sI_Cond_byte U _) (by decide) (by decide) rfl (fun _ => rfl) rfl rfl rfl rfl rfl rfl ?_
  refine sw_putfinal (pc := 10) dX12_init_10 (gCX12 _ _ _ _ _) 0 (by decide) wF_X12_7 rfl rfl rfl rfl rfl (fun _ => rfl) (fun _ => rfl) rfl ?_
  refine sv_aload_n (pc := 13) dX12_init_13 rfl rfl ?_
  refine sv_bipush (pc := 14) (v := 10) dX12_init_14 (by decide) ?_
  refine sw_newarray (pc := 16) (kd := 0) (a := 108) (n1 := 109) (N := 10) (ce1 := 2) (sl1 := 1010) (v := .int 0) dX12_init_16 rfl wA_int rfl (fun U => sI_Cond_int U _) (by decide) (by decide) rfl (fun _ => rfl) rfl rfl rfl rfl rfl rfl ?_
  refine sw_putfinal (pc := 18) dX12_init_18 (gCX12 _ _ _ _ _) 3 (by decide) wF_X12_22 rfl rfl rfl rfl rfl (fun _ => rfl) (fun _ => rfl) rfl ?_
  refine sv_aload_n (pc := 21) dX12_init_21 rfl rfl ?_
  refine sv_bipush (pc := 22) (v := 10) dX12_init_22 (by decide) ?_
  refine sw_newarray (pc := 24) (kd := 0) (a := 109) (n1 := 110) (N := 10) (ce1 := 3) (sl1 := 1020) (v := .int 0) dX12_init_24 rfl wA_int rfl (fun U => sI_Cond_int U _) (by decide) (by decide) rfl (fun _ => rfl) rfl rfl rfl rfl rfl rfl ?_
  refine sw_putfinal (pc := 26) dX12_init_26 (gCX12 _ _ _ _ _) 4 (by decide) wF_X12_26 rfl rfl rfl rfl rfl (fun _ => rfl) (fun _ => rfl) rfl ?_
  refine sv_aload_n (pc := 29) dX12_init_29 rfl rfl ?_
  refine sv_bipush (pc := 30) (v := 40) dX12_init_30 (by decide) ?_
  refine sw_newarray (pc := 32) (kd := 0) (a := 110) (n1 := 111) (N := 40) (ce1 := 4) (sl1 := 1060) (v := .int 0) dX12_init_32 rfl wA_int rfl (fun U => sI_Cond_int U _) (by decide) (by decide) rfl (fun _ => rfl) rfl rfl rfl rfl rfl rfl ?_
  refine sw_putfinal (pc := 34) dX12_init_34 (gCX12 _ _ _ _ _) 7 (by decide) wF_X12_40 rfl rfl rfl rfl rfl (fun _ => rfl) (fun _ => rfl) rfl ?_
  refine sv_aload_n (pc := 37) dX12_init_37 rfl rfl ?_
  refine sv_bipush (pc := 38) (v := 20) dX12_init_38 (by decide) ?_
  refine sw_newarray (pc := 40) (kd := 0) (a := 111) (n1 := 112) (N := 20) (ce1 := 5) (sl1 := 1080) (v := .int 0) dX12_init_40 rfl wA_int rfl (fun U => sI_Cond_int U _) (by decide) (by decide) rfl (fun _ => rfl) rfl rfl rfl rfl rfl rfl ?_
  refine sw_putfinal (pc := 42) dX12_init_42 (gCX12 _ _ _ _ _) 8 (by decide) wF_X12_46 rfl rfl rfl rfl rfl (fun _ => rfl) (fun _ => rfl) rfl ?_
  refine sv_aload_n (pc := 45) dX12_init_45 rfl rfl ?_
  refine sv_bipush (pc := 46) (v := 20) dX12_init_46 (by decide) ?_
  refine sw_newarray (pc := 48) (kd := 3) (a := 112) (n1 := 113) (N := 20) (ce1 := 6) (sl1 := 1100) (v := .int 0) dX12_init_48 rfl wA_boolean rfl (fun U => sI_Cond_boolean U _) (by decide) (by decide) rfl (fun _ => rfl) rfl rfl rfl rfl rfl rfl ?_
  refine sw_putfinal (pc := 50) dX12_init_50 (gCX12 _ _ _ _ _) 9 (by decide) wF_X12_53 rfl rfl rfl rfl rfl (fun _ => rfl) (fun _ => rfl) rfl ?_
  refine sv_aload_n (pc := 53) dX12_init_53 rfl rfl ?_
  refine sv_bipush (pc := 54) (v := 20) dX12_init_54 (by decide) ?_
  refine sw_newarray (pc := 56) (kd := 0) (a := 113) (n1 := 114) (N := 20) (ce1 := 7) (sl1 := 1120) (v := .int 0) dX12_init_56 rfl wA_int rfl (fun U => sI_Cond_int U _) (by decide) (by decide) rfl (fun _ => rfl) rfl rfl rfl rfl rfl rfl ?_
  refine sw_putfinal (pc := 58) dX12_init_58 (gCX12 _ _ _ _ _) 10 (by decide) wF_X12_57 rfl rfl rfl rfl rfl (fun _ => rfl) (fun _ => rfl) rfl ?_
  refine sv_aload_n (pc := 61) dX12_init_61 rfl rfl ?_
  refine sv_bipush (pc := 62) (v := 20) dX12_init_62 (by decide) ?_
  refine sw_newarray (pc := 64) (kd := 0) (a := 114) (n1 := 115) (N := 20) (ce1 := 8) (sl1 := 1140) (v := .int 0) dX12_init_64 rfl wA_int rfl (fun U => sI_Cond_int U _) (by decide) (by decide) rfl (fun _ => rfl) rfl rfl rfl rfl rfl rfl ?_
  refine sw_putfinal (pc := 66) dX12_init_66 (gCX12 _ _ _ _ _) 11 (by decide) wF_X12_60 rfl rfl rfl rfl rfl (fun _ => rfl) (fun _ => rfl) rfl ?_
  refine sv_aload_n (pc := 69) dX12_init_69 rfl rfl ?_
  refine sv_bipush (pc := 70) (v := 80) dX12_init_70 (by decide) ?_
  refine sw_newarray (pc := 72) (kd := 0) (a := 115) (n1 := 116) (N := 80) (ce1 := 9) (sl1 := 1220) (v := .int 0) dX12_init_72 rfl wA_int rfl (fun U => sI_Cond_int U _) (by decide) (by decide) rfl (fun _ => rfl) rfl rfl rfl rfl rfl rfl ?_
  refine sw_putfinal (pc := 74) dX12_init_74 (gCX12 _ _ _ _ _) 12 (by decide) wF_X12_63 rfl rfl rfl rfl rfl (fun _ => rfl) (fun _ => rfl) rfl ?_
  refine sv_aload_n (pc := 77) dX12_init_77 rfl rfl ?_
  refine sv_bipush (pc := 78) (v := 10) dX12_init_78 (by decide) ?_
  refine sw_newarray (pc := 80) (kd := 3) (a := 116) (n1 := 117) (N := 10) (ce1 := 10) (sl1 := 1230) (v := .int 0) dX12_init_80 rfl wA_boolean rfl (fun U => sI_Cond_boolean U _) (by decide) (by decide) rfl (fun _ => rfl) rfl rfl rfl rfl rfl rfl ?_
  refine sw_putfinal (pc := 82) dX12_init_82 (gCX12 _ _ _ _ _) 13 (by decide) wF_X12_69 rfl rfl rfl rfl rfl (fun _ => rfl) (fun _ => rfl) rfl ?_
  refine sv_aload_n (pc := 85) dX12_init_85 rfl rfl ?_
  refine sv_bipush (pc := 86) (v := 10) dX12_init_86 (by decide) ?_
  refine sw_newarray (pc := 88) (kd := 0) (a := 117) (n1 := 118) (N := 10) (ce1 := 11) (sl1 := 1240) (v := .int 0) dX12_init_88 rfl wA_int rfl (fun U => sI_Cond_int U _) (by decide) (by decide) rfl (fun _ => rfl) rfl rfl rfl rfl rfl rfl ?_
  refine sw_putfinal (pc := 90) dX12_init_90 (gCX12 _ _ _ _ _) 14 (by decide) wF_X12_72 rfl rfl rfl rfl rfl (fun _ => rfl) (fun _ => rfl) rfl ?_
  refine sv_aload_n (pc := 93) dX12_init_93 rfl rfl ?_
  refine sv_bipush (pc := 94) (v := 20) dX12_init_94 (by decide) ?_
  refine sw_newarray (pc := 96) (kd := 0) (a := 118) (n1 := 119) (N := 20) (ce1 := 12) (sl1 := 1260) (v := .int 0) dX12_init_96 rfl wA_int rfl (fun U => sI_Cond_int U _) (by decide) (by decide) rfl (fun _ => rfl) rfl rfl rfl rfl rfl rfl ?_
  refine sw_putfinal (pc := 98) dX12_init_98 (gCX12 _ _ _ _ _) 16 (by decide) wF_X12_82 rfl rfl rfl rfl rfl (fun _ => rfl) (fun _ => rfl) rfl ?_
  refine sv_aload_n (pc := 101) dX12_init_101 rfl rfl ?_
  refine sv_bipush (pc := 102) (v := 30) dX12_init_102 (by decide) ?_
  refine sw_newarray (pc := 104) (kd := 0) (a := 119) (n1 := 120) (N := 30) (ce1 := 13) (sl1 := 1290) (v := .int 0) dX12_init_104 rfl wA_int rfl (fun U => sI_Cond_int U _) (by decide) (by decide) rfl (fun _ => rfl) rfl rfl rfl rfl rfl rfl ?_
  refine sw_putfinal (pc := 106) dX12_init_106 (gCX12 _ _ _ _ _) 19 (by decide) wF_X12_98 rfl rfl rfl rfl rfl (fun _ => rfl) (fun _ => rfl) rfl ?_
  refine sv_aload_n (pc := 109) dX12_init_109 rfl rfl ?_
  refine sv_bipush (pc := 110) (v := 30) dX12_init_110 (by decide) ?_
  refine sw_newarray (pc := 112) (kd := 0) (a := 120) (n1 := 121) (N := 30) (ce1 := 14) (sl1 := 1320) (v := .int 0) dX12_init_112 rfl wA_int rfl (fun U => sI_Cond_int U _) (by decide) (by decide) rfl (fun _ => rfl) rfl rfl rfl rfl rfl rfl ?_
  refine sw_putfinal (pc := 114) dX12_init_114 (gCX12 _ _ _ _ _) 20 (by decide) wF_X12_101 rfl rfl rfl rfl rfl (fun _ => rfl) (fun _ => rfl) rfl ?_
  refine sv_aload_n (pc := 117) dX12_init_117 rfl rfl ?_
  refine sv_bipush (pc := 118) (v := 30) dX12_init_118 (by decide) ?_
  refine sw_newarray (pc := 120) (kd := 0) (a := 121) (n1 := 122) (N := 30) (ce1 := 15) (sl1 := 1350) (v := .int 0) dX12_init_120 rfl wA_int rfl (fun U => sI_Cond_int U _) (by decide) (by decide) rfl (fun _ => rfl) rfl rfl rfl rfl rfl rfl ?_
  refine sw_putfinal (pc := 122) dX12_init_122 (gCX12 _ _ _ _ _) 21 (by decide) wF_X12_104 rfl rfl rfl rfl rfl (fun _ => rfl) (fun _ => rfl) rfl ?_
  refine sv_aload_n (pc := 125) dX12_init_125 rfl rfl ?_
  refine sv_bipush (pc := 126) (v := 30) dX12_init_126 (by decide) ?_
  refine sw_newarray (pc := 128) (kd := 0) (a := 122) (n1 := 123) (N := 30) (ce1 := 16) (sl1 := 1380) (v := .int 0) dX12_init_128 rfl wA_int rfl (fun U => sI_Cond_int U _) (by decide) (by decide) rfl (fun _ => rfl) rfl rfl rfl rfl rfl rfl ?_
  refine sw_putfinal (pc := 130) dX12_init_130 (gCX12 _ _ _ _ _) 22 (by decide) wF_X12_107 rfl rfl rfl rfl rfl (fun _ => rfl) (fun _ => rfl) rfl ?_
  refine sv_aload_n (pc := 133) dX12_init_133 rfl rfl ?_
  refine sv_bipush (pc := 134) (v := 30) dX12_init_134 (by decide) ?_
  refine sw_newarray (pc := 136) (kd := 0) (a := 123) (n1 := 124) (N := 30) (ce1 := 17) (sl1 := 1410) (v := .int 0) dX12_init_136 rfl wA_int rfl (fun U => sI_Cond_int U _) (by decide) (by decide) rfl (fun _ => rfl) rfl rfl rfl rfl rfl rfl ?_
  refine sw_putfinal (pc := 138) dX12_init_138 (gCX12 _ _ _ _ _) 23 (by decide) wF_X12_110 rfl rfl rfl rfl rfl (fun _ => rfl) (fun _ => rfl) rfl ?_
  refine sv_aload_n (pc := 141) dX12_init_141 rfl rfl ?_
  refine sv_bipush (pc := 142) (v := 30) dX12_init_142 (by decide) ?_
  refine sw_newarray (pc := 144) (kd := 0) (a := 124) (n1 := 125) (N := 30) (ce1 := 18) (sl1 := 1440) (v := .int 0) dX12_init_144 rfl wA_int rfl (fun U => sI_Cond_int U _) (by decide) (by decide) rfl (fun _ => rfl) rfl rfl rfl rfl rfl rfl ?_
  refine sw_putfinal (pc := 146) dX12_init_146 (gCX12 _ _ _ _ _) 24 (by decide) wF_X12_113 rfl rfl rfl rfl rfl (fun _ => rfl) (fun _ => rfl) rfl ?_
  refine sv_aload_n (pc := 149) dX12_init_149 rfl rfl ?_
  refine sv_bipush (pc := 150) (v := 30) dX12_init_150 (by decide) ?_
  refine sw_newarray (pc := 152) (kd := 0) (a := 125) (n1 := 126) (N := 30) (ce1 := 19) (sl1 := 1470) (v := .int 0) dX12_init_152 rfl wA_int rfl (fun U => sI_Cond_int U _) (by decide) (by decide) rfl (fun _ => rfl) rfl rfl rfl rfl rfl rfl ?_
  refine sw_putfinal (pc := 154) dX12_init_154 (gCX12 _ _ _ _ _) 25 (by decide) wF_X12_116 rfl rfl rfl rfl rfl (fun _ => rfl) (fun _ => rfl) rfl ?_
  refine sv_aload_n (pc := 157) dX12_init_157 rfl rfl ?_
  refine sv_ldcw (pc := 158) dX12_init_158 wG_X12_423 ?_
  refine sw_newarray (pc := 161) (kd := 0) (a := 126) (n1 := 127) (N := 84000) (ce1 := 20) (sl1 := 85470) (v := .int 0) dX12_init_161 rfl wA_int rfl (fun U => sI_Cond_int U _) (by decide) (by decide) rfl (fun _ => rfl) rfl rfl rfl rfl rfl rfl ?_
  refine sw_putfinal (pc := 163) dX12_init_163 (gCX12 _ _ _ _ _) 32 (by decide) wF_X12_148 rfl rfl rfl rfl rfl (fun _ => rfl) (fun _ => rfl) rfl ?_
  refine sv_aload_n (pc := 166) dX12_init_166 rfl rfl ?_
  refine sv_bipush (pc := 167) (v := 13) dX12_init_167 (by decide) ?_
  refine sw_newarray (pc := 169) (kd := 0) (a := 127) (n1 := 128) (N := 13) (ce1 := 21) (sl1 := 85483) (v := .int 0) dX12_init_169 rfl wA_int rfl (fun U => sI_Cond_int U _) (by decide) (by decide) rfl (fun _ => rfl) rfl rfl rfl rfl rfl rfl ?_
  refine sw_putfinal (pc := 171) dX12_init_171 (gCX12 _ _ _ _ _) 40 (by decide) wF_X12_358 rfl rfl rfl rfl rfl (fun _ => rfl) (fun _ => rfl) rfl ?_
  refine sv_aload_n (pc := 174) dX12_init_174 rfl rfl ?_
  refine sv_sipush (pc := 175) (v := 403) dX12_init_175 (by decide) ?_
  refine sw_newarray (pc := 178) (kd := 0) (a := 128) (n1 := 129) (N := 403) (ce1 := 22) (sl1 := 85886) (v := .int 0) dX12_init_178 rfl wA_int rfl (fun U => sI_Cond_int U _) (by decide) (by decide) rfl (fun _ => rfl) rfl rfl rfl rfl rfl rfl ?_
  refine sw_putfinal (pc := 180) dX12_init_180 (gCX12 _ _ _ _ _) 41 (by decide) wF_X12_361 rfl rfl rfl rfl rfl (fun _ => rfl) (fun _ => rfl) rfl ?_
  refine sv_aload_n (pc := 183) dX12_init_183 rfl rfl ?_
  refine sv_sipush (pc := 184) (v := 403) dX12_init_184 (by decide) ?_
  refine sw_newarray (pc := 187) (kd := 0) (a := 129) (n1 := 130) (N := 403) (ce1 := 23) (sl1 := 86289) (v := .int 0) dX12_init_187 rfl wA_int rfl (fun U => sI_Cond_int U _) (by decide) (by decide) rfl (fun _ => rfl) rfl rfl rfl rfl rfl rfl ?_
  refine sw_putfinal (pc := 189) dX12_init_189 (gCX12 _ _ _ _ _) 42 (by decide) wF_X12_364 rfl rfl rfl rfl rfl (fun _ => rfl) (fun _ => rfl) rfl ?_
  refine sv_aload_n (pc := 192) dX12_init_192 rfl rfl ?_
  refine sv_bipush (pc := 193) (v := 13) dX12_init_193 (by decide) ?_
  refine sw_newarray (pc := 195) (kd := 0) (a := 130) (n1 := 131) (N := 13) (ce1 := 24) (sl1 := 86302) (v := .int 0) dX12_init_195 rfl wA_int rfl (fun U => sI_Cond_int U _) (by decide) (by decide) rfl (fun _ => rfl) rfl rfl rfl rfl rfl rfl ?_
  refine sw_putfinal (pc := 197) dX12_init_197 (gCX12 _ _ _ _ _) 43 (by decide) wF_X12_320 rfl rfl rfl rfl rfl (fun _ => rfl) (fun _ => rfl) rfl ?_
  refine sv_aload_n (pc := 200) dX12_init_200 rfl rfl ?_
  refine sv_bipush (pc := 201) (v := 13) dX12_init_201 (by decide) ?_
  refine sw_newarray (pc := 203) (kd := 0) (a := 131) (n1 := 132) (N := 13) (ce1 := 25) (sl1 := 86315) (v := .int 0) dX12_init_203 rfl wA_int rfl (fun U => sI_Cond_int U _) (by decide) (by decide) rfl (fun _ => rfl) rfl rfl rfl rfl rfl rfl ?_
  refine sw_putfinal (pc := 205) dX12_init_205 (gCX12 _ _ _ _ _) 44 (by decide) wF_X12_346 rfl rfl rfl rfl rfl (fun _ => rfl) (fun _ => rfl) rfl ?_
  refine sv_aload_n (pc := 208) dX12_init_208 rfl rfl ?_
  refine sv_sipush (pc := 209) (v := 3900) dX12_init_209 (by decide) ?_
  refine sw_newarray (pc := 212) (kd := 0) (a := 132) (n1 := 133) (N := 3900) (ce1 := 26) (sl1 := 90215) (v := .int 0) dX12_init_212 rfl wA_int rfl (fun U => sI_Cond_int U _) (by decide) (by decide) rfl (fun _ => rfl) rfl rfl rfl rfl rfl rfl ?_
  refine sw_putfinal (pc := 214) dX12_init_214 (gCX12 _ _ _ _ _) 45 (by decide) wF_X12_323 rfl rfl rfl rfl rfl (fun _ => rfl) (fun _ => rfl) rfl ?_
  refine sv_aload_n (pc := 217) dX12_init_217 rfl rfl ?_
  refine sv_sipush (pc := 218) (v := 3900) dX12_init_218 (by decide) ?_
  refine sw_newarray (pc := 221) (kd := 3) (a := 133) (n1 := 134) (N := 3900) (ce1 := 27) (sl1 := 94115) (v := .int 0) dX12_init_221 rfl wA_boolean rfl (fun U => sI_Cond_boolean U _) (by decide) (by decide) rfl (fun _ => rfl) rfl rfl rfl rfl rfl rfl ?_
  refine sw_putfinal (pc := 223) dX12_init_223 (gCX12 _ _ _ _ _) 46 (by decide) wF_X12_326 rfl rfl rfl rfl rfl (fun _ => rfl) (fun _ => rfl) rfl ?_
  refine sv_aload_n (pc := 226) dX12_init_226 rfl rfl ?_
  refine sv_sipush (pc := 227) (v := 3900) dX12_init_227 (by decide) ?_
  refine sw_newarray (pc := 230) (kd := 0) (a := 134) (n1 := 135) (N := 3900) (ce1 := 28) (sl1 := 98015) (v := .int 0) dX12_init_230 rfl wA_int rfl (fun U => sI_Cond_int U _) (by decide) (by decide) rfl (fun _ => rfl) rfl rfl rfl rfl rfl rfl ?_
  refine sw_putfinal (pc := 232) dX12_init_232 (gCX12 _ _ _ _ _) 47 (by decide) wF_X12_329 rfl rfl rfl rfl rfl (fun _ => rfl) (fun _ => rfl) rfl ?_
  refine sv_aload_n (pc := 235) dX12_init_235 rfl rfl ?_
  refine sv_sipush (pc := 236) (v := 3900) dX12_init_236 (by decide) ?_
  refine sw_newarray (pc := 239) (kd := 0) (a := 135) (n1 := 136) (N := 3900) (ce1 := 29) (sl1 := 101915) (v := .int 0) dX12_init_239 rfl wA_int rfl (fun U => sI_Cond_int U _) (by decide) (by decide) rfl (fun _ => rfl) rfl rfl rfl rfl rfl rfl ?_
  refine sw_putfinal (pc := 241) dX12_init_241 (gCX12 _ _ _ _ _) 48 (by decide) wF_X12_336 rfl rfl rfl rfl rfl (fun _ => rfl) (fun _ => rfl) rfl ?_
  refine sv_aload_n (pc := 244) dX12_init_244 rfl rfl ?_
  refine sv_sipush (pc := 245) (v := 3900) dX12_init_245 (by decide) ?_
  refine sw_newarray (pc := 248) (kd := 0) (a := 136) (n1 := 137) (N := 3900) (ce1 := 30) (sl1 := 105815) (v := .int 0) dX12_init_248 rfl wA_int rfl (fun U => sI_Cond_int U _) (by decide) (by decide) rfl (fun _ => rfl) rfl rfl rfl rfl rfl rfl ?_
  refine sw_putfinal (pc := 250) dX12_init_250 (gCX12 _ _ _ _ _) 49 (by decide) wF_X12_339 rfl rfl rfl rfl rfl (fun _ => rfl) (fun _ => rfl) rfl ?_
  refine sv_aload_n (pc := 253) dX12_init_253 rfl rfl ?_
  refine sv_sipush (pc := 254) (v := 3900) dX12_init_254 (by decide) ?_
  refine sw_newarray (pc := 257) (kd := 1) (a := 137) (n1 := 138) (N := 3900) (ce1 := 31) (sl1 := 109715) (v := .long 0) dX12_init_257 rfl wA_long rfl (fun U => sI_Cond_long U _) (by decide) (by decide) rfl (fun _ => rfl) rfl rfl rfl rfl rfl rfl ?_
  refine sw_putfinal (pc := 259) dX12_init_259 (gCX12 _ _ _ _ _) 50 (by decide) wF_X12_305 rfl rfl rfl rfl rfl (fun _ => rfl) (fun _ => rfl) rfl ?_
  refine sv_aload_n (pc := 262) dX12_init_262 rfl rfl ?_
  refine sv_sipush (pc := 263) (v := 3900) dX12_init_263 (by decide) ?_
  refine sw_newarray (pc := 266) (kd := 1) (a := 138) (n1 := 139) (N := 3900) (ce1 := 32) (sl1 := 113615) (v := .long 0) dX12_init_266 rfl wA_long rfl (fun U => sI_Cond_long U _) (by decide) (by decide) rfl (fun _ => rfl) rfl rfl rfl rfl rfl rfl ?_
  refine sw_putfinal (pc := 268) dX12_init_268 (gCX12 _ _ _ _ _) 51 (by decide) wF_X12_308 rfl rfl rfl rfl rfl (fun _ => rfl) (fun _ => rfl) rfl ?_
  refine sv_aload_n (pc := 271) dX12_init_271 rfl rfl ?_
  refine sv_sipush (pc := 272) (v := 3900) dX12_init_272 (by decide) ?_
  refine sw_newarray (pc := 275) (kd := 3) (a := 139) (n1 := 140) (N := 3900) (ce1 := 33) (sl1 := 117515) (v := .int 0) dX12_init_275 rfl wA_boolean rfl (fun U => sI_Cond_boolean U _) (by decide) (by decide) rfl (fun _ => rfl) rfl rfl rfl rfl rfl rfl ?_
  refine sw_putfinal (pc := 277) dX12_init_277 (gCX12 _ _ _ _ _) 52 (by decide) wF_X12_311 rfl rfl rfl rfl rfl (fun _ => rfl) (fun _ => rfl) rfl ?_
  refine sv_aload_n (pc := 280) dX12_init_280 rfl rfl ?_
  refine sv_sipush (pc := 281) (v := 3900) dX12_init_281 (by decide) ?_
  refine sw_newarray (pc := 284) (kd := 0) (a := 140) (n1 := 141) (N := 3900) (ce1 := 34) (sl1 := 121415) (v := .int 0) dX12_init_284 rfl wA_int rfl (fun U => sI_Cond_int U _) (by decide) (by decide) rfl (fun _ => rfl) rfl rfl rfl rfl rfl rfl ?_
  refine sw_putfinal (pc := 286) dX12_init_286 (gCX12 _ _ _ _ _) 53 (by decide) wF_X12_349 rfl rfl rfl rfl rfl (fun _ => rfl) (fun _ => rfl) rfl ?_
  refine sv_aload_n (pc := 289) dX12_init_289 rfl rfl ?_
  refine sv_sipush (pc := 290) (v := 3900) dX12_init_290 (by decide) ?_
  refine sw_newarray (pc := 293) (kd := 0) (a := 141) (n1 := 142) (N := 3900) (ce1 := 35) (sl1 := 125315) (v := .int 0) dX12_init_293 rfl wA_int rfl (fun U => sI_Cond_int U _) (by decide) (by decide) rfl (fun _ => rfl) rfl rfl rfl rfl rfl rfl ?_
  refine sw_putfinal (pc := 295) dX12_init_295 (gCX12 _ _ _ _ _) 54 (by decide) wF_X12_352 rfl rfl rfl rfl rfl (fun _ => rfl) (fun _ => rfl) rfl ?_
  refine sv_aload_n (pc := 298) dX12_init_298 rfl rfl ?_
  refine sv_bipush (pc := 299) (v := 13) dX12_init_299 (by decide) ?_
  refine sw_newarray (pc := 301) (kd := 0) (a := 142) (n1 := 143) (N := 13) (ce1 := 36) (sl1 := 125328) (v := .int 0) dX12_init_301 rfl wA_int rfl (fun U => sI_Cond_int U _) (by decide) (by decide) rfl (fun _ => rfl) rfl rfl rfl rfl rfl rfl ?_
  refine sw_putfinal (pc := 303) dX12_init_303 (gCX12 _ _ _ _ _) 55 (by decide) wF_X12_292 rfl rfl rfl rfl rfl (fun _ => rfl) (fun _ => rfl) rfl ?_
  refine sv_aload_n (pc := 306) dX12_init_306 rfl rfl ?_
  refine sv_sipush (pc := 307) (v := 533) dX12_init_307 (by decide) ?_
  refine sw_newarray (pc := 310) (kd := 0) (a := 143) (n1 := 144) (N := 533) (ce1 := 37) (sl1 := 125861) (v := .int 0) dX12_init_310 rfl wA_int rfl (fun U => sI_Cond_int U _) (by decide) (by decide) rfl (fun _ => rfl) rfl rfl rfl rfl rfl rfl ?_
  refine sw_putfinal (pc := 312) dX12_init_312 (gCX12 _ _ _ _ _) 56 (by decide) wF_X12_295 rfl rfl rfl rfl rfl (fun _ => rfl) (fun _ => rfl) rfl ?_
  refine sv_aload_n (pc := 315) dX12_init_315 rfl rfl ?_
  refine sv_sipush (pc := 316) (v := 533) dX12_init_316 (by decide) ?_
  refine sw_newarray (pc := 319) (kd := 1) (a := 144) (n1 := 145) (N := 533) (ce1 := 38) (sl1 := 126394) (v := .long 0) dX12_init_319 rfl wA_long rfl (fun U => sI_Cond_long U _) (by decide) (by decide) rfl (fun _ => rfl) rfl rfl rfl rfl rfl rfl ?_
  refine sw_putfinal (pc := 321) dX12_init_321 (gCX12 _ _ _ _ _) 57 (by decide) wF_X12_275 rfl rfl rfl rfl rfl (fun _ => rfl) (fun _ => rfl) rfl ?_
  refine sv_aload_n (pc := 324) dX12_init_324 rfl rfl ?_
  refine sv_bipush (pc := 325) (v := 10) dX12_init_325 (by decide) ?_
  refine sw_newarray (pc := 327) (kd := 1) (a := 145) (n1 := 146) (N := 10) (ce1 := 39) (sl1 := 126404) (v := .long 0) dX12_init_327 rfl wA_long rfl (fun U => sI_Cond_long U _) (by decide) (by decide) rfl (fun _ => rfl) rfl rfl rfl rfl rfl rfl ?_
  refine sw_putfinal (pc := 329) dX12_init_329 (gCX12 _ _ _ _ _) 60 (by decide) wF_X12_250 rfl rfl rfl rfl rfl (fun _ => rfl) (fun _ => rfl) rfl ?_
  refine sv_aload_n (pc := 332) dX12_init_332 rfl rfl ?_
  refine sv_bipush (pc := 333) (v := 10) dX12_init_333 (by decide) ?_
  refine sw_newarray (pc := 335) (kd := 1) (a := 146) (n1 := 147) (N := 10) (ce1 := 40) (sl1 := 126414) (v := .long 0) dX12_init_335 rfl wA_long rfl (fun U => sI_Cond_long U _) (by decide) (by decide) rfl (fun _ => rfl) rfl rfl rfl rfl rfl rfl ?_
  refine sw_putfinal (pc := 337) dX12_init_337 (gCX12 _ _ _ _ _) 61 (by decide) wF_X12_257 rfl rfl rfl rfl rfl (fun _ => rfl) (fun _ => rfl) rfl ?_
  refine sv_aload_n (pc := 340) dX12_init_340 rfl rfl ?_
  refine sv_bipush (pc := 341) (v := 10) dX12_init_341 (by decide) ?_
  refine sw_newarray (pc := 343) (kd := 3) (a := 147) (n1 := 148) (N := 10) (ce1 := 41) (sl1 := 126424) (v := .int 0) dX12_init_343 rfl wA_boolean rfl (fun U => sI_Cond_boolean U _) (by decide) (by decide) rfl (fun _ => rfl) rfl rfl rfl rfl rfl rfl ?_
  refine sw_putfinal (pc := 345) dX12_init_345 (gCX12 _ _ _ _ _) 62 (by decide) wF_X12_260 rfl rfl rfl rfl rfl (fun _ => rfl) (fun _ => rfl) rfl ?_
  refine sv_aload_n (pc := 348) dX12_init_348 rfl rfl ?_
  refine sv_bipush (pc := 349) (v := 10) dX12_init_349 (by decide) ?_
  refine sw_newarray (pc := 351) (kd := 1) (a := 148) (n1 := 149) (N := 10) (ce1 := 42) (sl1 := 126434) (v := .long 0) dX12_init_351 rfl wA_long rfl (fun U => sI_Cond_long U _) (by decide) (by decide) rfl (fun _ => rfl) rfl rfl rfl rfl rfl rfl ?_
  refine sw_putfinal (pc := 353) dX12_init_353 (gCX12 _ _ _ _ _) 63 (by decide) wF_X12_266 rfl rfl rfl rfl rfl (fun _ => rfl) (fun _ => rfl) rfl ?_
  refine sv_aload_n (pc := 356) dX12_init_356 rfl rfl ?_
  refine sv_bipush (pc := 357) (v := 10) dX12_init_357 (by decide) ?_
  refine sw_newarray (pc := 359) (kd := 1) (a := 149) (n1 := 150) (N := 10) (ce1 := 43) (sl1 := 126444) (v := .long 0) dX12_init_359 rfl wA_long rfl (fun U => sI_Cond_long U _) (by decide) (by decide) rfl (fun _ => rfl) rfl rfl rfl rfl rfl rfl ?_
  refine sw_putfinal (pc := 361) dX12_init_361 (gCX12 _ _ _ _ _) 64 (by decide) wF_X12_269 rfl rfl rfl rfl rfl (fun _ => rfl) (fun _ => rfl) rfl ?_
  refine sv_aload_n (pc := 364) dX12_init_364 rfl rfl ?_
  refine sv_bipush (pc := 365) (v := 10) dX12_init_365 (by decide) ?_
  refine sw_newarray (pc := 367) (kd := 3) (a := 150) (n1 := 151) (N := 10) (ce1 := 44) (sl1 := 126454) (v := .int 0) dX12_init_367 rfl wA_boolean rfl (fun U => sI_Cond_boolean U _) (by decide) (by decide) rfl (fun _ => rfl) rfl rfl rfl rfl rfl rfl ?_
  refine sw_putfinal (pc := 369) dX12_init_369 (gCX12 _ _ _ _ _) 65 (by decide) wF_X12_272 rfl rfl rfl rfl rfl (fun _ => rfl) (fun _ => rfl) rfl ?_
  refine sv_aload_n (pc := 372) dX12_init_372 rfl rfl ?_
  refine sv_bipush (pc := 373) (v := 14) dX12_init_373 (by decide) ?_
  refine sw_newarray (pc := 375) (kd := 0) (a := 151) (n1 := 152) (N := 14) (ce1 := 45) (sl1 := 126468) (v := .int 0) dX12_init_375 rfl wA_int rfl (fun U => sI_Cond_int U _) (by decide) (by decide) rfl (fun _ => rfl) rfl rfl rfl rfl rfl rfl ?_
  refine sw_putfinal (pc := 377) dX12_init_377 (gCX12 _ _ _ _ _) 67 (by decide) wF_X12_388 rfl rfl rfl rfl rfl (fun _ => rfl) (fun _ => rfl) rfl ?_
  refine sv_aload_n (pc := 380) dX12_init_380 rfl rfl ?_
  refine sv_bipush (pc := 381) (v := 14) dX12_init_381 (by decide) ?_
  refine sw_newarray (pc := 383) (kd := 0) (a := 152) (n1 := 153) (N := 14) (ce1 := 46) (sl1 := 126482) (v := .int 0) dX12_init_383 rfl wA_int rfl (fun U => sI_Cond_int U _) (by decide) (by decide) rfl (fun _ => rfl) rfl rfl rfl rfl rfl rfl ?_
  refine sw_putfinal (pc := 385) dX12_init_385 (gCX12 _ _ _ _ _) 68 (by decide) wF_X12_391 rfl rfl rfl rfl rfl (fun _ => rfl) (fun _ => rfl) rfl ?_
  refine sv_aload_n (pc := 388) dX12_init_388 rfl rfl ?_
  refine sv_bipush (pc := 389) (v := 14) dX12_init_389 (by decide) ?_
  refine sw_newarray (pc := 391) (kd := 0) (a := 153) (n1 := 154) (N := 14) (ce1 := 47) (sl1 := 126496) (v := .int 0) dX12_init_391 rfl wA_int rfl (fun U => sI_Cond_int U _) (by decide) (by decide) rfl (fun _ => rfl) rfl rfl rfl rfl rfl rfl ?_
  refine sw_putfinal (pc := 393) dX12_init_393 (gCX12 _ _ _ _ _) 69 (by decide) wF_X12_394 rfl rfl rfl rfl rfl (fun _ => rfl) (fun _ => rfl) rfl ?_
  refine sv_aload_n (pc := 396) dX12_init_396 rfl rfl ?_
  refine sv_sipush (pc := 397) (v := 400) dX12_init_397 (by decide) ?_
  refine sw_newarray (pc := 400) (kd := 0) (a := 154) (n1 := 155) (N := 400) (ce1 := 48) (sl1 := 126896) (v := .int 0) dX12_init_400 rfl wA_int rfl (fun U => sI_Cond_int U _) (by decide) (by decide) rfl (fun _ => rfl) rfl rfl rfl rfl rfl rfl ?_
  refine sw_putfinal (pc := 402) dX12_init_402 (gCX12 _ _ _ _ _) 74 (by decide) wF_X12_424 rfl rfl rfl rfl rfl (fun _ => rfl) (fun _ => rfl) rfl ?_
  refine sv_aload_n (pc := 405) dX12_init_405 rfl rfl ?_
  refine sv_sipush (pc := 406) (v := 400) dX12_init_406 (by decide) ?_
  refine sw_newarray (pc := 409) (kd := 3) (a := 155) (n1 := 156) (N := 400) (ce1 := 49) (sl1 := 127296) (v := .int 0) dX12_init_409 rfl wA_boolean rfl (fun U => sI_Cond_boolean U _) (by decide) (by decide) rfl (fun _ => rfl) rfl rfl rfl rfl rfl rfl ?_
  refine sw_putfinal (pc := 411) dX12_init_411 (gCX12 _ _ _ _ _) 75 (by decide) wF_X12_427 rfl rfl rfl rfl rfl (fun _ => rfl) (fun _ => rfl) rfl ?_
  refine sv_aload_n (pc := 414) dX12_init_414 rfl rfl ?_
  refine sv_sipush (pc := 415) (v := 400) dX12_init_415 (by decide) ?_
  refine sw_newarray (pc := 418) (kd := 0) (a := 156) (n1 := 157) (N := 400) (ce1 := 50) (sl1 := 127696) (v := .int 0) dX12_init_418 rfl wA_int rfl (fun U => sI_Cond_int U _) (by decide) (by decide) rfl (fun _ => rfl) rfl rfl rfl rfl rfl rfl ?_
  refine sw_putfinal (pc := 420) dX12_init_420 (gCX12 _ _ _ _ _) 76 (by decide) wF_X12_430 rfl rfl rfl rfl rfl (fun _ => rfl) (fun _ => rfl) rfl ?_
  refine sv_aload_n (pc := 423) dX12_init_423 rfl rfl ?_
  refine sv_sipush (pc := 424) (v := 400) dX12_init_424 (by decide) ?_
  refine sw_newarray (pc := 427) (kd := 0) (a := 157) (n1 := 158) (N := 400) (ce1 := 51) (sl1 := 128096) (v := .int 0) dX12_init_427 rfl wA_int rfl (fun U => sI_Cond_int U _) (by decide) (by decide) rfl (fun _ => rfl) rfl rfl rfl rfl rfl rfl ?_
  refine sw_putfinal (pc := 429) dX12_init_429 (gCX12 _ _ _ _ _) 77 (by decide) wF_X12_433 rfl rfl rfl rfl rfl (fun _ => rfl) (fun _ => rfl) rfl ?_
  refine sv_aload_n (pc := 432) dX12_init_432 rfl rfl ?_
  refine sv_sipush (pc := 433) (v := 400) dX12_init_433 (by decide) ?_
  refine sw_newarray (pc := 436) (kd := 0) (a := 158) (n1 := 159) (N := 400) (ce1 := 52) (sl1 := 128496) (v := .int 0) dX12_init_436 rfl wA_int rfl (fun U => sI_Cond_int U _) (by decide) (by decide) rfl (fun _ => rfl) rfl rfl rfl rfl rfl rfl ?_
  refine sw_putfinal (pc := 438) dX12_init_438 (gCX12 _ _ _ _ _) 78 (by decide) wF_X12_436 rfl rfl rfl rfl rfl (fun _ => rfl) (fun _ => rfl) rfl ?_
  refine sv_aload_n (pc := 441) dX12_init_441 rfl rfl ?_
  refine sv_sipush (pc := 442) (v := 400) dX12_init_442 (by decide) ?_
  refine sw_newarray (pc := 445) (kd := 0) (a := 159) (n1 := 160) (N := 400) (ce1 := 53) (sl1 := 128896) (v := .int 0) dX12_init_445 rfl wA_int rfl (fun U => sI_Cond_int U _) (by decide) (by decide) rfl (fun _ => rfl) rfl rfl rfl rfl rfl rfl ?_
  refine sw_putfinal (pc := 447) dX12_init_447 (gCX12 _ _ _ _ _) 79 (by decide) wF_X12_439 rfl rfl rfl rfl rfl (fun _ => rfl) (fun _ => rfl) rfl ?_
  refine sv_aload_n (pc := 450) dX12_init_450 rfl rfl ?_
  refine sv_sipush (pc := 451) (v := 400) dX12_init_451 (by decide) ?_
  refine sw_newarray (pc := 454) (kd := 0) (a := 160) (n1 := 161) (N := 400) (ce1 := 54) (sl1 := 129296) (v := .int 0) dX12_init_454 rfl wA_int rfl (fun U => sI_Cond_int U _) (by decide) (by decide) rfl (fun _ => rfl) rfl rfl rfl rfl rfl rfl ?_
  refine sw_putfinal (pc := 456) dX12_init_456 (gCX12 _ _ _ _ _) 80 (by decide) wF_X12_442 rfl rfl rfl rfl rfl (fun _ => rfl) (fun _ => rfl) rfl ?_
  refine sv_aload_n (pc := 459) dX12_init_459 rfl rfl ?_
  refine sv_bipush (pc := 460) (v := 100) dX12_init_460 (by decide) ?_
  refine sw_newarray (pc := 462) (kd := 0) (a := 161) (n1 := 162) (N := 100) (ce1 := 55) (sl1 := 129396) (v := .int 0) dX12_init_462 rfl wA_int rfl (fun U => sI_Cond_int U _) (by decide) (by decide) rfl (fun _ => rfl) rfl rfl rfl rfl rfl rfl ?_
  refine sw_putfinal (pc := 464) dX12_init_464 (gCX12 _ _ _ _ _) 81 (by decide) wF_X12_445 rfl rfl rfl rfl rfl (fun _ => rfl) (fun _ => rfl) rfl ?_
  refine sv_aload_n (pc := 467) dX12_init_467 rfl rfl ?_
  refine sv_bipush (pc := 468) (v := 100) dX12_init_468 (by decide) ?_
  refine sw_newarray (pc := 470) (kd := 0) (a := 162) (n1 := 163) (N := 100) (ce1 := 56) (sl1 := 129496) (v := .int 0) dX12_init_470 rfl wA_int rfl (fun U => sI_Cond_int U _) (by decide) (by decide) rfl (fun _ => rfl) rfl rfl rfl rfl rfl rfl ?_
  refine sw_putfinal (pc := 472) dX12_init_472 (gCX12 _ _ _ _ _) 82 (by decide) wF_X12_448 rfl rfl rfl rfl rfl (fun _ => rfl) (fun _ => rfl) rfl ?_
  refine sv_aload_n (pc := 475) dX12_init_475 rfl rfl ?_
  refine sv_bipush (pc := 476) (v := 60) dX12_init_476 (by decide) ?_
  refine sw_newarray (pc := 478) (kd := 0) (a := 163) (n1 := 164) (N := 60) (ce1 := 57) (sl1 := 129556) (v := .int 0) dX12_init_478 rfl wA_int rfl (fun U => sI_Cond_int U _) (by decide) (by decide) rfl (fun _ => rfl) rfl rfl rfl rfl rfl rfl ?_
  refine sw_putfinal (pc := 480) dX12_init_480 (gCX12 _ _ _ _ _) 83 (by decide) wF_X12_451 rfl rfl rfl rfl rfl (fun _ => rfl) (fun _ => rfl) rfl ?_
  refine sv_aload_n (pc := 483) dX12_init_483 rfl rfl ?_
  refine sv_bipush (pc := 484) (v := 10) dX12_init_484 (by decide) ?_
  refine sw_newarray (pc := 486) (kd := 3) (a := 164) (n1 := 165) (N := 10) (ce1 := 58) (sl1 := 129566) (v := .int 0) dX12_init_486 rfl wA_boolean rfl (fun U => sI_Cond_boolean U _) (by decide) (by decide) rfl (fun _ => rfl) rfl rfl rfl rfl rfl rfl ?_
  refine sw_putfinal (pc := 488) dX12_init_488 (gCX12 _ _ _ _ _) 84 (by decide) wF_X12_454 rfl rfl rfl rfl rfl (fun _ => rfl) (fun _ => rfl) rfl ?_
  refine sv_aload_n (pc := 491) dX12_init_491 rfl rfl ?_
  refine sv_bipush (pc := 492) (v := 20) dX12_init_492 (by decide) ?_
  refine sw_newarray (pc := 494) (kd := 3) (a := 165) (n1 := 166) (N := 20) (ce1 := 59) (sl1 := 129586) (v := .int 0) dX12_init_494 rfl wA_boolean rfl (fun U => sI_Cond_boolean U _) (by decide) (by decide) rfl (fun _ => rfl) rfl rfl rfl rfl rfl rfl ?_
  refine sw_putfinal (pc := 496) dX12_init_496 (gCX12 _ _ _ _ _) 85 (by decide) wF_X12_457 rfl rfl rfl rfl rfl (fun _ => rfl) (fun _ => rfl) rfl ?_
  refine sv_aload_n (pc := 499) dX12_init_499 rfl rfl ?_
  refine sv_sipush (pc := 500) (v := 1000) dX12_init_500 (by decide) ?_
  refine sw_newarray (pc := 503) (kd := 0) (a := 166) (n1 := 167) (N := 1000) (ce1 := 60) (sl1 := 130586) (v := .int 0) dX12_init_503 rfl wA_int rfl (fun U => sI_Cond_int U _) (by decide) (by decide) rfl (fun _ => rfl) rfl rfl rfl rfl rfl rfl ?_
  refine sw_putfinal (pc := 505) dX12_init_505 (gCX12 _ _ _ _ _) 86 (by decide) wF_X12_460 rfl rfl rfl rfl rfl (fun _ => rfl) (fun _ => rfl) rfl ?_
  refine sv_aload_n (pc := 508) dX12_init_508 rfl rfl ?_
  refine sv_sipush (pc := 509) (v := 1000) dX12_init_509 (by decide) ?_
  refine sw_newarray (pc := 512) (kd := 0) (a := 167) (n1 := 168) (N := 1000) (ce1 := 61) (sl1 := 131586) (v := .int 0) dX12_init_512 rfl wA_int rfl (fun U => sI_Cond_int U _) (by decide) (by decide) rfl (fun _ => rfl) rfl rfl rfl rfl rfl rfl ?_
  refine sw_putfinal (pc := 514) dX12_init_514 (gCX12 _ _ _ _ _) 87 (by decide) wF_X12_463 rfl rfl rfl rfl rfl (fun _ => rfl) (fun _ => rfl) rfl ?_
  refine sv_aload_n (pc := 517) dX12_init_517 rfl rfl ?_
  refine sv_sipush (pc := 518) (v := 1000) dX12_init_518 (by decide) ?_
  refine sw_newarray (pc := 521) (kd := 0) (a := 168) (n1 := 169) (N := 1000) (ce1 := 62) (sl1 := 132586) (v := .int 0) dX12_init_521 rfl wA_int rfl (fun U => sI_Cond_int U _) (by decide) (by decide) rfl (fun _ => rfl) rfl rfl rfl rfl rfl rfl ?_
  refine sw_putfinal (pc := 523) dX12_init_523 (gCX12 _ _ _ _ _) 89 (by decide) wF_X12_466 rfl rfl rfl rfl rfl (fun _ => rfl) (fun _ => rfl) rfl ?_
  refine sv_aload_n (pc := 526) dX12_init_526 rfl rfl ?_
  refine sv_sipush (pc := 527) (v := 1000) dX12_init_527 (by decide) ?_
  refine sw_newarray (pc := 530) (kd := 0) (a := 169) (n1 := 170) (N := 1000) (ce1 := 63) (sl1 := 133586) (v := .int 0) dX12_init_530 rfl wA_int rfl (fun U => sI_Cond_int U _) (by decide) (by decide) rfl (fun _ => rfl) rfl rfl rfl rfl rfl rfl ?_
  refine sw_putfinal (pc := 532) dX12_init_532 (gCX12 _ _ _ _ _) 90 (by decide) wF_X12_469 rfl rfl rfl rfl rfl (fun _ => rfl) (fun _ => rfl) rfl ?_
  refine sv_aload_n (pc := 535) dX12_init_535 rfl rfl ?_
  refine sv_sipush (pc := 536) (v := 400) dX12_init_536 (by decide) ?_
  refine sw_newarray (pc := 539) (kd := 0) (a := 170) (n1 := 171) (N := 400) (ce1 := 64) (sl1 := 133986) (v := .int 0) dX12_init_539 rfl wA_int rfl (fun U => sI_Cond_int U _) (by decide) (by decide) rfl (fun _ => rfl) rfl rfl rfl rfl rfl rfl ?_
  refine sw_putfinal (pc := 541) dX12_init_541 (gCX12 _ _ _ _ _) 92 (by decide) wF_X12_472 rfl rfl rfl rfl rfl (fun _ => rfl) (fun _ => rfl) rfl ?_
  refine sv_aload_n (pc := 544) dX12_init_544 rfl rfl ?_
  refine sv_sipush (pc := 545) (v := 256) dX12_init_545 (by decide) ?_
  refine sw_newarray (pc := 548) (kd := 3) (a := 171) (n1 := 172) (N := 256) (ce1 := 65) (sl1 := 134242) (v := .int 0) dX12_init_548 rfl wA_boolean rfl (fun U => sI_Cond_boolean U _) (by decide) (by decide) rfl (fun _ => rfl) rfl rfl rfl rfl rfl rfl ?_
  refine sw_putfinal (pc := 550) dX12_init_550 (gCX12 _ _ _ _ _) 94 (by decide) wF_X12_475 rfl rfl rfl rfl rfl (fun _ => rfl) (fun _ => rfl) rfl ?_
  refine sv_aload_n (pc := 553) dX12_init_553 rfl rfl ?_
  refine sv_iconst (pc := 554) (v := 4) dX12_init_554 (by decide) ?_
  refine sw_newarray (pc := 555) (kd := 0) (a := 172) (n1 := 173) (N := 4) (ce1 := 66) (sl1 := 134246) (v := .int 0) dX12_init_555 rfl wA_int rfl (fun U => sI_Cond_int U _) (by decide) (by decide) rfl (fun _ => rfl) rfl rfl rfl rfl rfl rfl ?_
  refine sw_putfinal (pc := 557) dX12_init_557 (gCX12 _ _ _ _ _) 95 (by decide) wF_X12_478 rfl rfl rfl rfl rfl (fun _ => rfl) (fun _ => rfl) rfl ?_
  refine sv_aload_n (pc := 560) dX12_init_560 rfl rfl ?_
  refine sv_bipush (pc := 561) (v := 8) dX12_init_561 (by decide) ?_
  refine sw_newarray (pc := 563) (kd := 0) (a := 173) (n1 := 174) (N := 8) (ce1 := 67) (sl1 := 134254) (v := .int 0) dX12_init_563 rfl wA_int rfl (fun U => sI_Cond_int U _) (by decide) (by decide) rfl (fun _ => rfl) rfl rfl rfl rfl rfl rfl ?_
  refine sw_putfinal (pc := 565) dX12_init_565 (gCX12 _ _ _ _ _) 100 (by decide) wF_X12_481 rfl rfl rfl rfl rfl (fun _ => rfl) (fun _ => rfl) rfl ?_
  refine sv_aload_n (pc := 568) dX12_init_568 rfl rfl ?_
  refine sv_sipush (pc := 569) (v := 300) dX12_init_569 (by decide) ?_
  refine sw_newarray (pc := 572) (kd := 0) (a := 174) (n1 := 175) (N := 300) (ce1 := 68) (sl1 := 134554) (v := .int 0) dX12_init_572 rfl wA_int rfl (fun U => sI_Cond_int U _) (by decide) (by decide) rfl (fun _ => rfl) rfl rfl rfl rfl rfl rfl ?_
  refine sw_putfinal (pc := 574) dX12_init_574 (gCX12 _ _ _ _ _) 103 (by decide) wF_X12_484 rfl rfl rfl rfl rfl (fun _ => rfl) (fun _ => rfl) rfl ?_
  refine sv_aload_n (pc := 577) dX12_init_577 rfl rfl ?_
  refine sv_bipush (pc := 578) (v := 12) dX12_init_578 (by decide) ?_
  refine sw_newarray (pc := 580) (kd := 0) (a := 175) (n1 := 176) (N := 12) (ce1 := 69) (sl1 := 134566) (v := .int 0) dX12_init_580 rfl wA_int rfl (fun U => sI_Cond_int U _) (by decide) (by decide) rfl (fun _ => rfl) rfl rfl rfl rfl rfl rfl ?_
  refine sw_putfinal (pc := 582) dX12_init_582 (gCX12 _ _ _ _ _) 105 (by decide) wF_X12_487 rfl rfl rfl rfl rfl (fun _ => rfl) (fun _ => rfl) rfl ?_
  refine sv_aload_n (pc := 585) dX12_init_585 rfl rfl ?_
  refine sv_bipush (pc := 586) (v := 12) dX12_init_586 (by decide) ?_
  refine sw_newarray (pc := 588) (kd := 0) (a := 176) (n1 := 177) (N := 12) (ce1 := 70) (sl1 := 134578) (v := .int 0) dX12_init_588 rfl wA_int rfl (fun U => sI_Cond_int U _) (by decide) (by decide) rfl (fun _ => rfl) rfl rfl rfl rfl rfl rfl ?_
  refine sw_putfinal (pc := 590) dX12_init_590 (gCX12 _ _ _ _ _) 107 (by decide) wF_X12_490 rfl rfl rfl rfl rfl (fun _ => rfl) (fun _ => rfl) rfl ?_
  refine sv_aload_n (pc := 593) dX12_init_593 rfl rfl ?_
  refine sv_bipush (pc := 594) (v := 16) dX12_init_594 (by decide) ?_
  refine sw_newarray (pc := 596) (kd := 0) (a := 177) (n1 := 178) (N := 16) (ce1 := 71) (sl1 := 134594) (v := .int 0) dX12_init_596 rfl wA_int rfl (fun U => sI_Cond_int U _) (by decide) (by decide) rfl (fun _ => rfl) rfl rfl rfl rfl rfl rfl ?_
  refine sw_putfinal (pc := 598) dX12_init_598 (gCX12 _ _ _ _ _) 110 (by decide) wF_X12_493 rfl rfl rfl rfl rfl (fun _ => rfl) (fun _ => rfl) rfl ?_
  refine sv_aload_n (pc := 601) dX12_init_601 rfl rfl ?_
  refine sv_bipush (pc := 602) (v := 16) dX12_init_602 (by decide) ?_
  refine sw_newarray (pc := 604) (kd := 0) (a := 178) (n1 := 179) (N := 16) (ce1 := 72) (sl1 := 134610) (v := .int 0) dX12_init_604 rfl wA_int rfl (fun U => sI_Cond_int U _) (by decide) (by decide) rfl (fun _ => rfl) rfl rfl rfl rfl rfl rfl ?_
  refine sw_putfinal (pc := 606) dX12_init_606 (gCX12 _ _ _ _ _) 111 (by decide) wF_X12_496 rfl rfl rfl rfl rfl (fun _ => rfl) (fun _ => rfl) rfl ?_
  refine sv_aload_n (pc := 609) dX12_init_609 rfl rfl ?_
  refine sv_bipush (pc := 610) (v := 16) dX12_init_610 (by decide) ?_
  refine sw_newarray (pc := 612) (kd := 0) (a := 179) (n1 := 180) (N := 16) (ce1 := 73) (sl1 := 134626) (v := .int 0) dX12_init_612 rfl wA_int rfl (fun U => sI_Cond_int U _) (by decide) (by decide) rfl (fun _ => rfl) rfl rfl rfl rfl rfl rfl ?_
  refine sw_putfinal (pc := 614) dX12_init_614 (gCX12 _ _ _ _ _) 112 (by decide) wF_X12_499 rfl rfl rfl rfl rfl (fun _ => rfl) (fun _ => rfl) rfl ?_
  refine sv_aload_n (pc := 617) dX12_init_617 rfl rfl ?_
  refine sv_sipush (pc := 618) (v := 400) dX12_init_618 (by decide) ?_
  refine sw_newarray (pc := 621) (kd := 0) (a := 180) (n1 := 181) (N := 400) (ce1 := 74) (sl1 := 135026) (v := .int 0) dX12_init_621 rfl wA_int rfl (fun U => sI_Cond_int U _) (by decide) (by decide) rfl (fun _ => rfl) rfl rfl rfl rfl rfl rfl ?_
  refine sw_putfinal (pc := 623) dX12_init_623 (gCX12 _ _ _ _ _) 113 (by decide) wF_X12_502 rfl rfl rfl rfl rfl (fun _ => rfl) (fun _ => rfl) rfl ?_
  refine sv_aload_n (pc := 626) dX12_init_626 rfl rfl ?_
  refine sv_sipush (pc := 627) (v := 400) dX12_init_627 (by decide) ?_
  refine sw_newarray (pc := 630) (kd := 0) (a := 181) (n1 := 182) (N := 400) (ce1 := 75) (sl1 := 135426) (v := .int 0) dX12_init_630 rfl wA_int rfl (fun U => sI_Cond_int U _) (by decide) (by decide) rfl (fun _ => rfl) rfl rfl rfl rfl rfl rfl ?_
  refine sw_putfinal (pc := 632) dX12_init_632 (gCX12 _ _ _ _ _) 114 (by decide) wF_X12_505 rfl rfl rfl rfl rfl (fun _ => rfl) (fun _ => rfl) rfl ?_
  refine sv_aload_n (pc := 635) dX12_init_635 rfl rfl ?_
  refine sv_sipush (pc := 636) (v := 8800) dX12_init_636 (by decide) ?_
  refine sw_newarray (pc := 639) (kd := 0) (a := 182) (n1 := 183) (N := 8800) (ce1 := 76) (sl1 := 144226) (v := .int 0) dX12_init_639 rfl wA_int rfl (fun U => sI_Cond_int U _) (by decide) (by decide) rfl (fun _ => rfl) rfl rfl rfl rfl rfl rfl ?_
  refine sw_putfinal (pc := 641) dX12_init_641 (gCX12 _ _ _ _ _) 115 (by decide) wF_X12_508 rfl rfl rfl rfl rfl (fun _ => rfl) (fun _ => rfl) rfl ?_
  refine sv_aload_n (pc := 644) dX12_init_644 rfl rfl ?_
  refine sv_bipush (pc := 645) (v := 24) dX12_init_645 (by decide) ?_
  refine sw_newarray (pc := 647) (kd := 1) (a := 183) (n1 := 184) (N := 24) (ce1 := 77) (sl1 := 144250) (v := .long 0) dX12_init_647 rfl wA_long rfl (fun U => sI_Cond_long U _) (by decide) (by decide) rfl (fun _ => rfl) rfl rfl rfl rfl rfl rfl ?_
  refine sw_putfinal (pc := 649) dX12_init_649 (gCX12 _ _ _ _ _) 117 (by decide) wF_X12_511 rfl rfl rfl rfl rfl (fun _ => rfl) (fun _ => rfl) rfl ?_
  refine sv_aload_n (pc := 652) dX12_init_652 rfl rfl ?_
  refine sv_bipush (pc := 653) (v := 7) dX12_init_653 (by decide) ?_
  refine sw_newarray (pc := 655) (kd := 0) (a := 184) (n1 := 185) (N := 7) (ce1 := 78) (sl1 := 144257) (v := .int 0) dX12_init_655 rfl wA_int rfl (fun U => sI_Cond_int U _) (by decide) (by decide) rfl (fun _ => rfl) rfl rfl rfl rfl rfl rfl ?_
  refine sw_putfinal (pc := 657) dX12_init_657 (gCX12 _ _ _ _ _) 118 (by decide) wF_X12_514 rfl rfl rfl rfl rfl (fun _ => rfl) (fun _ => rfl) rfl ?_
  refine sv_aload_n (pc := 660) dX12_init_660 rfl rfl ?_
  refine sv_bipush (pc := 661) (v := 35) dX12_init_661 (by decide) ?_
  refine sw_newarray (pc := 663) (kd := 0) (a := 185) (n1 := 186) (N := 35) (ce1 := 79) (sl1 := 144292) (v := .int 0) dX12_init_663 rfl wA_int rfl (fun U => sI_Cond_int U _) (by decide) (by decide) rfl (fun _ => rfl) rfl rfl rfl rfl rfl rfl ?_
  refine sw_putfinal (pc := 665) dX12_init_665 (gCX12 _ _ _ _ _) 119 (by decide) wF_X12_517 rfl rfl rfl rfl rfl (fun _ => rfl) (fun _ => rfl) rfl ?_
  refine sv_aload_n (pc := 668) dX12_init_668 rfl rfl ?_
  refine sv_sipush (pc := 669) (v := 280) dX12_init_669 (by decide) ?_
  refine sw_newarray (pc := 672) (kd := 0) (a := 186) (n1 := 187) (N := 280) (ce1 := 80) (sl1 := 144572) (v := .int 0) dX12_init_672 rfl wA_int rfl (fun U => sI_Cond_int U _) (by decide) (by decide) rfl (fun _ => rfl) rfl rfl rfl rfl rfl rfl ?_
  refine sw_putfinal (pc := 674) dX12_init_674 (gCX12 _ _ _ _ _) 120 (by decide) wF_X12_520 rfl rfl rfl rfl rfl (fun _ => rfl) (fun _ => rfl) rfl ?_
  refine sv_aload_n (pc := 677) dX12_init_677 rfl rfl ?_
  refine sv_bipush (pc := 678) (v := 8) dX12_init_678 (by decide) ?_
  refine sw_newarray (pc := 680) (kd := 0) (a := 187) (n1 := 188) (N := 8) (ce1 := 81) (sl1 := 144580) (v := .int 0) dX12_init_680 rfl wA_int rfl (fun U => sI_Cond_int U _) (by decide) (by decide) rfl (fun _ => rfl) rfl rfl rfl rfl rfl rfl ?_
  refine sw_putfinal (pc := 682) dX12_init_682 (gCX12 _ _ _ _ _) 121 (by decide) wF_X12_523 rfl rfl rfl rfl rfl (fun _ => rfl) (fun _ => rfl) rfl ?_
  refine sv_aload_n (pc := 685) dX12_init_685 rfl rfl ?_
  refine sv_bipush (pc := 686) (v := 7) dX12_init_686 (by decide) ?_
  refine sw_newarray (pc := 688) (kd := 0) (a := 188) (n1 := 189) (N := 7) (ce1 := 82) (sl1 := 144587) (v := .int 0) dX12_init_688 rfl wA_int rfl (fun U => sI_Cond_int U _) (by decide) (by decide) rfl (fun _ => rfl) rfl rfl rfl rfl rfl rfl ?_
  refine sw_putfinal (pc := 690) dX12_init_690 (gCX12 _ _ _ _ _) 122 (by decide) wF_X12_526 rfl rfl rfl rfl rfl (fun _ => rfl) (fun _ => rfl) rfl ?_
  refine sv_aload_n (pc := 693) dX12_init_693 rfl rfl ?_
  refine sv_ldcw (pc := 694) dX12_init_694 wG_X12_529 ?_
  refine sw_newarray (pc := 697) (kd := 0) (a := 189) (n1 := 190) (N := 46656) (ce1 := 83) (sl1 := 191243) (v := .int 0) dX12_init_697 rfl wA_int rfl (fun U => sI_Cond_int U _) (by decide) (by decide) rfl (fun _ => rfl) rfl rfl rfl rfl rfl rfl ?_
  refine sw_putfinal (pc := 699) dX12_init_699 (gCX12 _ _ _ _ _) 123 (by decide) wF_X12_530 rfl rfl rfl rfl rfl (fun _ => rfl) (fun _ => rfl) rfl ?_
  refine sv_aload_n (pc := 702) dX12_init_702 rfl rfl ?_
  refine sv_ldcw (pc := 703) dX12_init_703 wG_X12_529 ?_
  refine sw_newarray (pc := 706) (kd := 0) (a := 190) (n1 := 191) (N := 46656) (ce1 := 84) (sl1 := 237899) (v := .int 0) dX12_init_706 rfl wA_int rfl (fun U => sI_Cond_int U _) (by decide) (by decide) rfl (fun _ => rfl) rfl rfl rfl rfl rfl rfl ?_
  refine sw_putfinal (pc := 708) dX12_init_708 (gCX12 _ _ _ _ _) 124 (by decide) wF_X12_533 rfl rfl rfl rfl rfl (fun _ => rfl) (fun _ => rfl) rfl ?_
  refine sv_aload_n (pc := 711) dX12_init_711 rfl rfl ?_
  refine sv_ldcw (pc := 712) dX12_init_712 wG_X12_529 ?_
  refine sw_newarray (pc := 715) (kd := 3) (a := 191) (n1 := 192) (N := 46656) (ce1 := 85) (sl1 := 284555) (v := .int 0) dX12_init_715 rfl wA_boolean rfl (fun U => sI_Cond_boolean U _) (by decide) (by decide) rfl (fun _ => rfl) rfl rfl rfl rfl rfl rfl ?_
  refine sw_putfinal (pc := 717) dX12_init_717 (gCX12 _ _ _ _ _) 125 (by decide) wF_X12_536 rfl rfl rfl rfl rfl (fun _ => rfl) (fun _ => rfl) rfl ?_
  refine sv_iconst (pc := 720) (v := 0) dX12_init_720 (by decide) ?_
  refine sv_istore_n (pc := 721) dX12_init_721 rfl (by decide) ?_
  refine lp_routes rfl rfl rfl rfl rfl (by decide) ⟨rfl, rfl⟩ ⟨le_t rfl, le_t rfl⟩ rfl rfl ?_
  refine sv_iconst (pc := 740) (v := 0) dX12_init_740 (by decide) ?_
  refine sv_istore_n (pc := 741) dX12_init_741 rfl (by decide) ?_
  refine lp_events rfl rfl rfl rfl rfl rfl rfl rfl (by decide) (by decide) (by decide) rfl rfl ?_
  refine sv_iconst (pc := 769) (v := 0) dX12_init_769 (by decide) ?_
  refine sv_istore_n (pc := 770) dX12_init_770 rfl (by decide) ?_
  refine lp_picks rfl rfl rfl rfl rfl rfl rfl rfl (by decide) (by decide) (by decide) rfl rfl ?_
  refine sv_iconst (pc := 798) (v := 0) dX12_init_798 (by decide) ?_
  refine sv_istore_n (pc := 799) dX12_init_799 rfl (by decide) ?_
  refine sv_iload_n (pc := 800) dX12_init_800 rfl rfl ?_
  refine sv_bipush (pc := 801) (v := 10) dX12_init_801 (by decide) ?_
  refine sv_icmp_ge (pc := 803) (tgt := 839) dX12_init_803 (by decide) (fun h => absurd h (by decide)) (fun _ => ?_)
  refine sv_iconst (pc := 806) (v := 0) dX12_init_806 (by decide) ?_
  refine sv_istore_n (pc := 807) dX12_init_807 rfl (by decide) ?_
  refine sv_iload_n (pc := 808) dX12_init_808 rfl rfl ?_
  refine sv_iconst (pc := 809) (v := 5) dX12_init_809 (by decide) ?_
  refine sv_icmp_ge (pc := 810) (tgt := 833) dX12_init_810 (by decide) (fun h => absurd h (by decide)) (fun _ => ?_)
  refine sv_aload_n (pc := 813) dX12_init_813 rfl rfl ?_
  refine sw_getfield (pc := 814) dX12_init_814 (gCX12 _ _ _ _ _) 83 (by decide) wF_X12_451 rfl rfl rfl ?_
  refine sv_bipush (pc := 817) (v := 6) dX12_init_817 (by decide) ?_
  refine sv_iload_n (pc := 819) dX12_init_819 rfl rfl ?_
  refine sw_imul (pc := 820) (v := 0) dX12_init_820 (by decide) ?_
  refine sv_iload_n (pc := 821) dX12_init_821 rfl rfl ?_
  refine sw_iadd (pc := 822) (v := 0) dX12_init_822 (by decide) ?_
  refine sv_iload_n (pc := 823) dX12_init_823 rfl rfl ?_
  refine sv_iconst (pc := 824) (v := 1) dX12_init_824 (by decide) ?_
  refine sw_iadd (pc := 825) (v := 1) dX12_init_825 (by decide) ?_
  refine sw_iastore (pc := 826) (k := 0) (v := .int 1) dX12_init_826 rfl rfl rfl (by decide) (by decide) rfl rfl ?_
  refine sw_iinc (pc := 827) (v := 1) dX12_init_827 rfl (by decide) (by decide) ?_
  refine sv_goto (pc := 830) (tgt := 808) dX12_init_830 (by decide) ?_
  refine sv_iload_n (pc := 808) dX12_init_808 rfl rfl ?_
  refine sv_iconst (pc := 809) (v := 5) dX12_init_809 (by decide) ?_
  refine sv_icmp_ge (pc := 810) (tgt := 833) dX12_init_810 (by decide) (fun h => absurd h (by decide)) (fun _ => ?_)
  refine sv_aload_n (pc := 813) dX12_init_813 rfl rfl ?_
  refine sw_getfield (pc := 814) dX12_init_814 (gCX12 _ _ _ _ _) 83 (by decide) wF_X12_451 rfl rfl rfl ?_
  refine sv_bipush (pc := 817) (v := 6) dX12_init_817 (by decide) ?_
  refine sv_iload_n (pc := 819) dX12_init_819 rfl rfl ?_
  refine sw_imul (pc := 820) (v := 0) dX12_init_820 (by decide) ?_
  refine sv_iload_n (pc := 821) dX12_init_821 rfl rfl ?_
  refine sw_iadd (pc := 822) (v := 1) dX12_init_822 (by decide) ?_
  refine sv_iload_n (pc := 823) dX12_init_823 rfl rfl ?_
  refine sv_iconst (pc := 824) (v := 1) dX12_init_824 (by decide) ?_
  refine sw_iadd (pc := 825) (v := 2) dX12_init_825 (by decide) ?_
  refine sw_iastore (pc := 826) (k := 1) (v := .int 2) dX12_init_826 rfl rfl rfl (by decide) (by decide) rfl rfl ?_
  refine sw_iinc (pc := 827) (v := 2) dX12_init_827 rfl (by decide) (by decide) ?_
  refine sv_goto (pc := 830) (tgt := 808) dX12_init_830 (by decide) ?_
  refine sv_iload_n (pc := 808) dX12_init_808 rfl rfl ?_
  refine sv_iconst (pc := 809) (v := 5) dX12_init_809 (by decide) ?_
  refine sv_icmp_ge (pc := 810) (tgt := 833) dX12_init_810 (by decide) (fun h => absurd h (by decide)) (fun _ => ?_)
  refine sv_aload_n (pc := 813) dX12_init_813 rfl rfl ?_
  refine sw_getfield (pc := 814) dX12_init_814 (gCX12 _ _ _ _ _) 83 (by decide) wF_X12_451 rfl rfl rfl ?_
  refine sv_bipush (pc := 817) (v := 6) dX12_init_817 (by decide) ?_
  refine sv_iload_n (pc := 819) dX12_init_819 rfl rfl ?_
  refine sw_imul (pc := 820) (v := 0) dX12_init_820 (by decide) ?_
  refine sv_iload_n (pc := 821) dX12_init_821 rfl rfl ?_
  refine sw_iadd (pc := 822) (v := 2) dX12_init_822 (by decide) ?_
  refine sv_iload_n (pc := 823) dX12_init_823 rfl rfl ?_
  refine sv_iconst (pc := 824) (v := 1) dX12_init_824 (by decide) ?_
  refine sw_iadd (pc := 825) (v := 3) dX12_init_825 (by decide) ?_
  refine sw_iastore (pc := 826) (k := 2) (v := .int 3) dX12_init_826 rfl rfl rfl (by decide) (by decide) rfl rfl ?_
  refine sw_iinc (pc := 827) (v := 3) dX12_init_827 rfl (by decide) (by decide) ?_
  refine sv_goto (pc := 830) (tgt := 808) dX12_init_830 (by decide) ?_
  refine sv_iload_n (pc := 808) dX12_init_808 rfl rfl ?_
  refine sv_iconst (pc := 809) (v := 5) dX12_init_809 (by decide) ?_
  refine sv_icmp_ge (pc := 810) (tgt := 833) dX12_init_810 (by decide) (fun h => absurd h (by decide)) (fun _ => ?_)
  refine sv_aload_n (pc := 813) dX12_init_813 rfl rfl ?_
  refine sw_getfield (pc := 814) dX12_init_814 (gCX12 _ _ _ _ _) 83 (by decide) wF_X12_451 rfl rfl rfl ?_
  refine sv_bipush (pc := 817) (v := 6) dX12_init_817 (by decide) ?_
  refine sv_iload_n (pc := 819) dX12_init_819 rfl rfl ?_
  refine sw_imul (pc := 820) (v := 0) dX12_init_820 (by decide) ?_
  refine sv_iload_n (pc := 821) dX12_init_821 rfl rfl ?_
  refine sw_iadd (pc := 822) (v := 3) dX12_init_822 (by decide) ?_
  refine sv_iload_n (pc := 823) dX12_init_823 rfl rfl ?_
  refine sv_iconst (pc := 824) (v := 1) dX12_init_824 (by decide) ?_
  refine sw_iadd (pc := 825) (v := 4) dX12_init_825 (by decide) ?_
  refine sw_iastore (pc := 826) (k := 3) (v := .int 4) dX12_init_826 rfl rfl rfl (by decide) (by decide) rfl rfl ?_
  refine sw_iinc (pc := 827) (v := 4) dX12_init_827 rfl (by decide) (by decide) ?_
  refine sv_goto (pc := 830) (tgt := 808) dX12_init_830 (by decide) ?_
  refine sv_iload_n (pc := 808) dX12_init_808 rfl rfl ?_
  refine sv_iconst (pc := 809) (v := 5) dX12_init_809 (by decide) ?_
  refine sv_icmp_ge (pc := 810) (tgt := 833) dX12_init_810 (by decide) (fun h => absurd h (by decide)) (fun _ => ?_)
  refine sv_aload_n (pc := 813) dX12_init_813 rfl rfl ?_
  refine sw_getfield (pc := 814) dX12_init_814 (gCX12 _ _ _ _ _) 83 (by decide) wF_X12_451 rfl rfl rfl ?_
  refine sv_bipush (pc := 817) (v := 6) dX12_init_817 (by decide) ?_
  refine sv_iload_n (pc := 819) dX12_init_819 rfl rfl ?_
  refine sw_imul (pc := 820) (v := 0) dX12_init_820 (by decide) ?_
  refine sv_iload_n (pc := 821) dX12_init_821 rfl rfl ?_
  refine sw_iadd (pc := 822) (v := 4) dX12_init_822 (by decide) ?_
  refine sv_iload_n (pc := 823) dX12_init_823 rfl rfl ?_
  refine sv_iconst (pc := 824) (v := 1) dX12_init_824 (by decide) ?_
  refine sw_iadd (pc := 825) (v := 5) dX12_init_825 (by decide) ?_
  refine sw_iastore (pc := 826) (k := 4) (v := .int 5) dX12_init_826 rfl rfl rfl (by decide) (by decide) rfl rfl ?_
  refine sw_iinc (pc := 827) (v := 5) dX12_init_827 rfl (by decide) (by decide) ?_
  refine sv_goto (pc := 830) (tgt := 808) dX12_init_830 (by decide) ?_
  refine sv_iload_n (pc := 808) dX12_init_808 rfl rfl ?_
  refine sv_iconst (pc := 809) (v := 5) dX12_init_809 (by decide) ?_
  refine sv_icmp_ge (pc := 810) (tgt := 833) dX12_init_810 (by decide) (fun _ => ?_) (fun h => absurd (by decide) h)
  refine sw_iinc (pc := 833) (v := 1) dX12_init_833 rfl (by decide) (by decide) ?_
  refine sv_goto (pc := 836) (tgt := 800) dX12_init_836 (by decide) ?_
  refine sv_iload_n (pc := 800) dX12_init_800 rfl rfl ?_
  refine sv_bipush (pc := 801) (v := 10) dX12_init_801 (by decide) ?_
  refine sv_icmp_ge (pc := 803) (tgt := 839) dX12_init_803 (by decide) (fun h => absurd h (by decide)) (fun _ => ?_)
  refine sv_iconst (pc := 806) (v := 0) dX12_init_806 (by decide) ?_
  refine sv_istore_n (pc := 807) dX12_init_807 rfl (by decide) ?_
  refine sv_iload_n (pc := 808) dX12_init_808 rfl rfl ?_
  refine sv_iconst (pc := 809) (v := 5) dX12_init_809 (by decide) ?_
  refine sv_icmp_ge (pc := 810) (tgt := 833) dX12_init_810 (by decide) (fun h => absurd h (by decide)) (fun _ => ?_)
  refine sv_aload_n (pc := 813) dX12_init_813 rfl rfl ?_
  refine sw_getfield (pc := 814) dX12_init_814 (gCX12 _ _ _ _ _) 83 (by decide) wF_X12_451 rfl rfl rfl ?_
  refine sv_bipush (pc := 817) (v := 6) dX12_init_817 (by decide) ?_
  refine sv_iload_n (pc := 819) dX12_init_819 rfl rfl ?_
  refine sw_imul (pc := 820) (v := 6) dX12_init_820 (by decide) ?_
  refine sv_iload_n (pc := 821) dX12_init_821 rfl rfl ?_
  refine sw_iadd (pc := 822) (v := 6) dX12_init_822 (by decide) ?_
  refine sv_iload_n (pc := 823) dX12_init_823 rfl rfl ?_
  refine sv_iconst (pc := 824) (v := 1) dX12_init_824 (by decide) ?_
  refine sw_iadd (pc := 825) (v := 1) dX12_init_825 (by decide) ?_
  refine sw_iastore (pc := 826) (k := 6) (v := .int 1) dX12_init_826 rfl rfl rfl (by decide) (by decide) rfl rfl ?_
  refine sw_iinc (pc := 827) (v := 1) dX12_init_827 rfl (by decide) (by decide) ?_
  refine sv_goto (pc := 830) (tgt := 808) dX12_init_830 (by decide) ?_
  refine sv_iload_n (pc := 808) dX12_init_808 rfl rfl ?_
  refine sv_iconst (pc := 809) (v := 5) dX12_init_809 (by decide) ?_
  refine sv_icmp_ge (pc := 810) (tgt := 833) dX12_init_810 (by decide) (fun h => absurd h (by decide)) (fun _ => ?_)
  refine sv_aload_n (pc := 813) dX12_init_813 rfl rfl ?_
  refine sw_getfield (pc := 814) dX12_init_814 (gCX12 _ _ _ _ _) 83 (by decide) wF_X12_451 rfl rfl rfl ?_
  refine sv_bipush (pc := 817) (v := 6) dX12_init_817 (by decide) ?_
  refine sv_iload_n (pc := 819) dX12_init_819 rfl rfl ?_
  refine sw_imul (pc := 820) (v := 6) dX12_init_820 (by decide) ?_
  refine sv_iload_n (pc := 821) dX12_init_821 rfl rfl ?_
  refine sw_iadd (pc := 822) (v := 7) dX12_init_822 (by decide) ?_
  refine sv_iload_n (pc := 823) dX12_init_823 rfl rfl ?_
  refine sv_iconst (pc := 824) (v := 1) dX12_init_824 (by decide) ?_
  refine sw_iadd (pc := 825) (v := 2) dX12_init_825 (by decide) ?_
  refine sw_iastore (pc := 826) (k := 7) (v := .int 2) dX12_init_826 rfl rfl rfl (by decide) (by decide) rfl rfl ?_
  refine sw_iinc (pc := 827) (v := 2) dX12_init_827 rfl (by decide) (by decide) ?_
  refine sv_goto (pc := 830) (tgt := 808) dX12_init_830 (by decide) ?_
  refine sv_iload_n (pc := 808) dX12_init_808 rfl rfl ?_
  refine sv_iconst (pc := 809) (v := 5) dX12_init_809 (by decide) ?_
  refine sv_icmp_ge (pc := 810) (tgt := 833) dX12_init_810 (by decide) (fun h => absurd h (by decide)) (fun _ => ?_)
  refine sv_aload_n (pc := 813) dX12_init_813 rfl rfl ?_
  refine sw_getfield (pc := 814) dX12_init_814 (gCX12 _ _ _ _ _) 83 (by decide) wF_X12_451 rfl rfl rfl ?_
  refine sv_bipush (pc := 817) (v := 6) dX12_init_817 (by decide) ?_
  refine sv_iload_n (pc := 819) dX12_init_819 rfl rfl ?_
  refine sw_imul (pc := 820) (v := 6) dX12_init_820 (by decide) ?_
  refine sv_iload_n (pc := 821) dX12_init_821 rfl rfl ?_
  refine sw_iadd (pc := 822) (v := 8) dX12_init_822 (by decide) ?_
  refine sv_iload_n (pc := 823) dX12_init_823 rfl rfl ?_
  refine sv_iconst (pc := 824) (v := 1) dX12_init_824 (by decide) ?_
  refine sw_iadd (pc := 825) (v := 3) dX12_init_825 (by decide) ?_
  refine sw_iastore (pc := 826) (k := 8) (v := .int 3) dX12_init_826 rfl rfl rfl (by decide) (by decide) rfl rfl ?_
  refine sw_iinc (pc := 827) (v := 3) dX12_init_827 rfl (by decide) (by decide) ?_
  refine sv_goto (pc := 830) (tgt := 808) dX12_init_830 (by decide) ?_
  refine sv_iload_n (pc := 808) dX12_init_808 rfl rfl ?_
  refine sv_iconst (pc := 809) (v := 5) dX12_init_809 (by decide) ?_
  refine sv_icmp_ge (pc := 810) (tgt := 833) dX12_init_810 (by decide) (fun h => absurd h (by decide)) (fun _ => ?_)
  refine sv_aload_n (pc := 813) dX12_init_813 rfl rfl ?_
  refine sw_getfield (pc := 814) dX12_init_814 (gCX12 _ _ _ _ _) 83 (by decide) wF_X12_451 rfl rfl rfl ?_
  refine sv_bipush (pc := 817) (v := 6) dX12_init_817 (by decide) ?_
  refine sv_iload_n (pc := 819) dX12_init_819 rfl rfl ?_
  refine sw_imul (pc := 820) (v := 6) dX12_init_820 (by decide) ?_
  refine sv_iload_n (pc := 821) dX12_init_821 rfl rfl ?_
  refine sw_iadd (pc := 822) (v := 9) dX12_init_822 (by decide) ?_
  refine sv_iload_n (pc := 823) dX12_init_823 rfl rfl ?_
  refine sv_iconst (pc := 824) (v := 1) dX12_init_824 (by decide) ?_
  refine sw_iadd (pc := 825) (v := 4) dX12_init_825 (by decide) ?_
  refine sw_iastore (pc := 826) (k := 9) (v := .int 4) dX12_init_826 rfl rfl rfl (by decide) (by decide) rfl rfl ?_
  refine sw_iinc (pc := 827) (v := 4) dX12_init_827 rfl (by decide) (by decide) ?_
  refine sv_goto (pc := 830) (tgt := 808) dX12_init_830 (by decide) ?_
  refine sv_iload_n (pc := 808) dX12_init_808 rfl rfl ?_
  refine sv_iconst (pc := 809) (v := 5) dX12_init_809 (by decide) ?_
  refine sv_icmp_ge (pc := 810) (tgt := 833) dX12_init_810 (by decide) (fun h => absurd h (by decide)) (fun _ => ?_)
  refine sv_aload_n (pc := 813) dX12_init_813 rfl rfl ?_
  refine sw_getfield (pc := 814) dX12_init_814 (gCX12 _ _ _ _ _) 83 (by decide) wF_X12_451 rfl rfl rfl ?_
  refine sv_bipush (pc := 817) (v := 6) dX12_init_817 (by decide) ?_
  refine sv_iload_n (pc := 819) dX12_init_819 rfl rfl ?_
  refine sw_imul (pc := 820) (v := 6) dX12_init_820 (by decide) ?_
  refine sv_iload_n (pc := 821) dX12_init_821 rfl rfl ?_
  refine sw_iadd (pc := 822) (v := 10) dX12_init_822 (by decide) ?_
  refine sv_iload_n (pc := 823) dX12_init_823 rfl rfl ?_
  refine sv_iconst (pc := 824) (v := 1) dX12_init_824 (by decide) ?_
  refine sw_iadd (pc := 825) (v := 5) dX12_init_825 (by decide) ?_
  refine sw_iastore (pc := 826) (k := 10) (v := .int 5) dX12_init_826 rfl rfl rfl (by decide) (by decide) rfl rfl ?_
  refine sw_iinc (pc := 827) (v := 5) dX12_init_827 rfl (by decide) (by decide) ?_
  refine sv_goto (pc := 830) (tgt := 808) dX12_init_830 (by decide) ?_
  refine sv_iload_n (pc := 808) dX12_init_808 rfl rfl ?_
  refine sv_iconst (pc := 809) (v := 5) dX12_init_809 (by decide) ?_
  refine sv_icmp_ge (pc := 810) (tgt := 833) dX12_init_810 (by decide) (fun _ => ?_) (fun h => absurd (by decide) h)
  refine sw_iinc (pc := 833) (v := 2) dX12_init_833 rfl (by decide) (by decide) ?_
  refine sv_goto (pc := 836) (tgt := 800) dX12_init_836 (by decide) ?_
  refine sv_iload_n (pc := 800) dX12_init_800 rfl rfl ?_
  refine sv_bipush (pc := 801) (v := 10) dX12_init_801 (by decide) ?_
  refine sv_icmp_ge (pc := 803) (tgt := 839) dX12_init_803 (by decide) (fun h => absurd h (by decide)) (fun _ => ?_)
  refine sv_iconst (pc := 806) (v := 0) dX12_init_806 (by decide) ?_
  refine sv_istore_n (pc := 807) dX12_init_807 rfl (by decide) ?_
  refine sv_iload_n (pc := 808) dX12_init_808 rfl rfl ?_
  refine sv_iconst (pc := 809) (v := 5) dX12_init_809 (by decide) ?_
  refine sv_icmp_ge (pc := 810) (tgt := 833) dX12_init_810 (by decide) (fun h => absurd h (by decide)) (fun _ => ?_)
  refine sv_aload_n (pc := 813) dX12_init_813 rfl rfl ?_
  refine sw_getfield (pc := 814) dX12_init_814 (gCX12 _ _ _ _ _) 83 (by decide) wF_X12_451 rfl rfl rfl ?_
  refine sv_bipush (pc := 817) (v := 6) dX12_init_817 (by decide) ?_
  refine sv_iload_n (pc := 819) dX12_init_819 rfl rfl ?_
  refine sw_imul (pc := 820) (v := 12) dX12_init_820 (by decide) ?_
  refine sv_iload_n (pc := 821) dX12_init_821 rfl rfl ?_
  refine sw_iadd (pc := 822) (v := 12) dX12_init_822 (by decide) ?_
  refine sv_iload_n (pc := 823) dX12_init_823 rfl rfl ?_
  refine sv_iconst (pc := 824) (v := 1) dX12_init_824 (by decide) ?_
  refine sw_iadd (pc := 825) (v := 1) dX12_init_825 (by decide) ?_
  refine sw_iastore (pc := 826) (k := 12) (v := .int 1) dX12_init_826 rfl rfl rfl (by decide) (by decide) rfl rfl ?_
  refine sw_iinc (pc := 827) (v := 1) dX12_init_827 rfl (by decide) (by decide) ?_
  refine sv_goto (pc := 830) (tgt := 808) dX12_init_830 (by decide) ?_
  refine sv_iload_n (pc := 808) dX12_init_808 rfl rfl ?_
  refine sv_iconst (pc := 809) (v := 5) dX12_init_809 (by decide) ?_
  refine sv_icmp_ge (pc := 810) (tgt := 833) dX12_init_810 (by decide) (fun h => absurd h (by decide)) (fun _ => ?_)
  refine sv_aload_n (pc := 813) dX12_init_813 rfl rfl ?_
  refine sw_getfield (pc := 814) dX12_init_814 (gCX12 _ _ _ _ _) 83 (by decide) wF_X12_451 rfl rfl rfl ?_
  refine sv_bipush (pc := 817) (v := 6) dX12_init_817 (by decide) ?_
  refine sv_iload_n (pc := 819) dX12_init_819 rfl rfl ?_
  refine sw_imul (pc := 820) (v := 12) dX12_init_820 (by decide) ?_
  refine sv_iload_n (pc := 821) dX12_init_821 rfl rfl ?_
  refine sw_iadd (pc := 822) (v := 13) dX12_init_822 (by decide) ?_
  refine sv_iload_n (pc := 823) dX12_init_823 rfl rfl ?_
  refine sv_iconst (pc := 824) (v := 1) dX12_init_824 (by decide) ?_
  refine sw_iadd (pc := 825) (v := 2) dX12_init_825 (by decide) ?_
  refine sw_iastore (pc := 826) (k := 13) (v := .int 2) dX12_init_826 rfl rfl rfl (by decide) (by decide) rfl rfl ?_
  refine sw_iinc (pc := 827) (v := 2) dX12_init_827 rfl (by decide) (by decide) ?_
  refine sv_goto (pc := 830) (tgt := 808) dX12_init_830 (by decide) ?_
  refine sv_iload_n (pc := 808) dX12_init_808 rfl rfl ?_
  refine sv_iconst (pc := 809) (v := 5) dX12_init_809 (by decide) ?_
  refine sv_icmp_ge (pc := 810) (tgt := 833) dX12_init_810 (by decide) (fun h => absurd h (by decide)) (fun _ => ?_)
  refine sv_aload_n (pc := 813) dX12_init_813 rfl rfl ?_
  refine sw_getfield (pc := 814) dX12_init_814 (gCX12 _ _ _ _ _) 83 (by decide) wF_X12_451 rfl rfl rfl ?_
  refine sv_bipush (pc := 817) (v := 6) dX12_init_817 (by decide) ?_
  refine sv_iload_n (pc := 819) dX12_init_819 rfl rfl ?_
  refine sw_imul (pc := 820) (v := 12) dX12_init_820 (by decide) ?_
  refine sv_iload_n (pc := 821) dX12_init_821 rfl rfl ?_
  refine sw_iadd (pc := 822) (v := 14) dX12_init_822 (by decide) ?_
  refine sv_iload_n (pc := 823) dX12_init_823 rfl rfl ?_
  refine sv_iconst (pc := 824) (v := 1) dX12_init_824 (by decide) ?_
  refine sw_iadd (pc := 825) (v := 3) dX12_init_825 (by decide) ?_
  refine sw_iastore (pc := 826) (k := 14) (v := .int 3) dX12_init_826 rfl rfl rfl (by decide) (by decide) rfl rfl ?_
  refine sw_iinc (pc := 827) (v := 3) dX12_init_827 rfl (by decide) (by decide) ?_
  refine sv_goto (pc := 830) (tgt := 808) dX12_init_830 (by decide) ?_
  refine sv_iload_n (pc := 808) dX12_init_808 rfl rfl ?_
  refine sv_iconst (pc := 809) (v := 5) dX12_init_809 (by decide) ?_
  refine sv_icmp_ge (pc := 810) (tgt := 833) dX12_init_810 (by decide) (fun h => absurd h (by decide)) (fun _ => ?_)
  refine sv_aload_n (pc := 813) dX12_init_813 rfl rfl ?_
  refine sw_getfield (pc := 814) dX12_init_814 (gCX12 _ _ _ _ _) 83 (by decide) wF_X12_451 rfl rfl rfl ?_
  refine sv_bipush (pc := 817) (v := 6) dX12_init_817 (by decide) ?_
  refine sv_iload_n (pc := 819) dX12_init_819 rfl rfl ?_
  refine sw_imul (pc := 820) (v := 12) dX12_init_820 (by decide) ?_
  refine sv_iload_n (pc := 821) dX12_init_821 rfl rfl ?_
  refine sw_iadd (pc := 822) (v := 15) dX12_init_822 (by decide) ?_
  refine sv_iload_n (pc := 823) dX12_init_823 rfl rfl ?_
  refine sv_iconst (pc := 824) (v := 1) dX12_init_824 (by decide) ?_
  refine sw_iadd (pc := 825) (v := 4) dX12_init_825 (by decide) ?_
  refine sw_iastore (pc := 826) (k := 15) (v := .int 4) dX12_init_826 rfl rfl rfl (by decide) (by decide) rfl rfl ?_
  refine sw_iinc (pc := 827) (v := 4) dX12_init_827 rfl (by decide) (by decide) ?_
  refine sv_goto (pc := 830) (tgt := 808) dX12_init_830 (by decide) ?_
  refine sv_iload_n (pc := 808) dX12_init_808 rfl rfl ?_
  refine sv_iconst (pc := 809) (v := 5) dX12_init_809 (by decide) ?_
  refine sv_icmp_ge (pc := 810) (tgt := 833) dX12_init_810 (by decide) (fun h => absurd h (by decide)) (fun _ => ?_)
  refine sv_aload_n (pc := 813) dX12_init_813 rfl rfl ?_
  refine sw_getfield (pc := 814) dX12_init_814 (gCX12 _ _ _ _ _) 83 (by decide) wF_X12_451 rfl rfl rfl ?_
  refine sv_bipush (pc := 817) (v := 6) dX12_init_817 (by decide) ?_
  refine sv_iload_n (pc := 819) dX12_init_819 rfl rfl ?_
  refine sw_imul (pc := 820) (v := 12) dX12_init_820 (by decide) ?_
  refine sv_iload_n (pc := 821) dX12_init_821 rfl rfl ?_
  refine sw_iadd (pc := 822) (v := 16) dX12_init_822 (by decide) ?_
  refine sv_iload_n (pc := 823) dX12_init_823 rfl rfl ?_
  refine sv_iconst (pc := 824) (v := 1) dX12_init_824 (by decide) ?_
  refine sw_iadd (pc := 825) (v := 5) dX12_init_825 (by decide) ?_
  refine sw_iastore (pc := 826) (k := 16) (v := .int 5) dX12_init_826 rfl rfl rfl (by decide) (by decide) rfl rfl ?_
  refine sw_iinc (pc := 827) (v := 5) dX12_init_827 rfl (by decide) (by decide) ?_
  refine sv_goto (pc := 830) (tgt := 808) dX12_init_830 (by decide) ?_
  refine sv_iload_n (pc := 808) dX12_init_808 rfl rfl ?_
  refine sv_iconst (pc := 809) (v := 5) dX12_init_809 (by decide) ?_
  refine sv_icmp_ge (pc := 810) (tgt := 833) dX12_init_810 (by decide) (fun _ => ?_) (fun h => absurd (by decide) h)
  refine sw_iinc (pc := 833) (v := 3) dX12_init_833 rfl (by decide) (by decide) ?_
  refine sv_goto (pc := 836) (tgt := 800) dX12_init_836 (by decide) ?_
  refine sv_iload_n (pc := 800) dX12_init_800 rfl rfl ?_
  refine sv_bipush (pc := 801) (v := 10) dX12_init_801 (by decide) ?_
  refine sv_icmp_ge (pc := 803) (tgt := 839) dX12_init_803 (by decide) (fun h => absurd h (by decide)) (fun _ => ?_)
  refine sv_iconst (pc := 806) (v := 0) dX12_init_806 (by decide) ?_
  refine sv_istore_n (pc := 807) dX12_init_807 rfl (by decide) ?_
  refine sv_iload_n (pc := 808) dX12_init_808 rfl rfl ?_
  refine sv_iconst (pc := 809) (v := 5) dX12_init_809 (by decide) ?_
  refine sv_icmp_ge (pc := 810) (tgt := 833) dX12_init_810 (by decide) (fun h => absurd h (by decide)) (fun _ => ?_)
  refine sv_aload_n (pc := 813) dX12_init_813 rfl rfl ?_
  refine sw_getfield (pc := 814) dX12_init_814 (gCX12 _ _ _ _ _) 83 (by decide) wF_X12_451 rfl rfl rfl ?_
  refine sv_bipush (pc := 817) (v := 6) dX12_init_817 (by decide) ?_
  refine sv_iload_n (pc := 819) dX12_init_819 rfl rfl ?_
  refine sw_imul (pc := 820) (v := 18) dX12_init_820 (by decide) ?_
  refine sv_iload_n (pc := 821) dX12_init_821 rfl rfl ?_
  refine sw_iadd (pc := 822) (v := 18) dX12_init_822 (by decide) ?_
  refine sv_iload_n (pc := 823) dX12_init_823 rfl rfl ?_
  refine sv_iconst (pc := 824) (v := 1) dX12_init_824 (by decide) ?_
  refine sw_iadd (pc := 825) (v := 1) dX12_init_825 (by decide) ?_
  refine sw_iastore (pc := 826) (k := 18) (v := .int 1) dX12_init_826 rfl rfl rfl (by decide) (by decide) rfl rfl ?_
  refine sw_iinc (pc := 827) (v := 1) dX12_init_827 rfl (by decide) (by decide) ?_
  refine sv_goto (pc := 830) (tgt := 808) dX12_init_830 (by decide) ?_
  refine sv_iload_n (pc := 808) dX12_init_808 rfl rfl ?_
  refine sv_iconst (pc := 809) (v := 5) dX12_init_809 (by decide) ?_
  refine sv_icmp_ge (pc := 810) (tgt := 833) dX12_init_810 (by decide) (fun h => absurd h (by decide)) (fun _ => ?_)
  refine sv_aload_n (pc := 813) dX12_init_813 rfl rfl ?_
  refine sw_getfield (pc := 814) dX12_init_814 (gCX12 _ _ _ _ _) 83 (by decide) wF_X12_451 rfl rfl rfl ?_
  refine sv_bipush (pc := 817) (v := 6) dX12_init_817 (by decide) ?_
  refine sv_iload_n (pc := 819) dX12_init_819 rfl rfl ?_
  refine sw_imul (pc := 820) (v := 18) dX12_init_820 (by decide) ?_
  refine sv_iload_n (pc := 821) dX12_init_821 rfl rfl ?_
  refine sw_iadd (pc := 822) (v := 19) dX12_init_822 (by decide) ?_
  refine sv_iload_n (pc := 823) dX12_init_823 rfl rfl ?_
  refine sv_iconst (pc := 824) (v := 1) dX12_init_824 (by decide) ?_
  refine sw_iadd (pc := 825) (v := 2) dX12_init_825 (by decide) ?_
  refine sw_iastore (pc := 826) (k := 19) (v := .int 2) dX12_init_826 rfl rfl rfl (by decide) (by decide) rfl rfl ?_
  refine sw_iinc (pc := 827) (v := 2) dX12_init_827 rfl (by decide) (by decide) ?_
  refine sv_goto (pc := 830) (tgt := 808) dX12_init_830 (by decide) ?_
  refine sv_iload_n (pc := 808) dX12_init_808 rfl rfl ?_
  refine sv_iconst (pc := 809) (v := 5) dX12_init_809 (by decide) ?_
  refine sv_icmp_ge (pc := 810) (tgt := 833) dX12_init_810 (by decide) (fun h => absurd h (by decide)) (fun _ => ?_)
  refine sv_aload_n (pc := 813) dX12_init_813 rfl rfl ?_
  refine sw_getfield (pc := 814) dX12_init_814 (gCX12 _ _ _ _ _) 83 (by decide) wF_X12_451 rfl rfl rfl ?_
  refine sv_bipush (pc := 817) (v := 6) dX12_init_817 (by decide) ?_
  refine sv_iload_n (pc := 819) dX12_init_819 rfl rfl ?_
  refine sw_imul (pc := 820) (v := 18) dX12_init_820 (by decide) ?_
  refine sv_iload_n (pc := 821) dX12_init_821 rfl rfl ?_
  refine sw_iadd (pc := 822) (v := 20) dX12_init_822 (by decide) ?_
  refine sv_iload_n (pc := 823) dX12_init_823 rfl rfl ?_
  refine sv_iconst (pc := 824) (v := 1) dX12_init_824 (by decide) ?_
  refine sw_iadd (pc := 825) (v := 3) dX12_init_825 (by decide) ?_
  refine sw_iastore (pc := 826) (k := 20) (v := .int 3) dX12_init_826 rfl rfl rfl (by decide) (by decide) rfl rfl ?_
  refine sw_iinc (pc := 827) (v := 3) dX12_init_827 rfl (by decide) (by decide) ?_
  refine sv_goto (pc := 830) (tgt := 808) dX12_init_830 (by decide) ?_
  refine sv_iload_n (pc := 808) dX12_init_808 rfl rfl ?_
  refine sv_iconst (pc := 809) (v := 5) dX12_init_809 (by decide) ?_
  refine sv_icmp_ge (pc := 810) (tgt := 833) dX12_init_810 (by decide) (fun h => absurd h (by decide)) (fun _ => ?_)
  refine sv_aload_n (pc := 813) dX12_init_813 rfl rfl ?_
  refine sw_getfield (pc := 814) dX12_init_814 (gCX12 _ _ _ _ _) 83 (by decide) wF_X12_451 rfl rfl rfl ?_
  refine sv_bipush (pc := 817) (v := 6) dX12_init_817 (by decide) ?_
  refine sv_iload_n (pc := 819) dX12_init_819 rfl rfl ?_
  refine sw_imul (pc := 820) (v := 18) dX12_init_820 (by decide) ?_
  refine sv_iload_n (pc := 821) dX12_init_821 rfl rfl ?_
  refine sw_iadd (pc := 822) (v := 21) dX12_init_822 (by decide) ?_
  refine sv_iload_n (pc := 823) dX12_init_823 rfl rfl ?_
  refine sv_iconst (pc := 824) (v := 1) dX12_init_824 (by decide) ?_
  refine sw_iadd (pc := 825) (v := 4) dX12_init_825 (by decide) ?_
  refine sw_iastore (pc := 826) (k := 21) (v := .int 4) dX12_init_826 rfl rfl rfl (by decide) (by decide) rfl rfl ?_
  refine sw_iinc (pc := 827) (v := 4) dX12_init_827 rfl (by decide) (by decide) ?_
  refine sv_goto (pc := 830) (tgt := 808) dX12_init_830 (by decide) ?_
  refine sv_iload_n (pc := 808) dX12_init_808 rfl rfl ?_
  refine sv_iconst (pc := 809) (v := 5) dX12_init_809 (by decide) ?_
  refine sv_icmp_ge (pc := 810) (tgt := 833) dX12_init_810 (by decide) (fun h => absurd h (by decide)) (fun _ => ?_)
  refine sv_aload_n (pc := 813) dX12_init_813 rfl rfl ?_
  refine sw_getfield (pc := 814) dX12_init_814 (gCX12 _ _ _ _ _) 83 (by decide) wF_X12_451 rfl rfl rfl ?_
  refine sv_bipush (pc := 817) (v := 6) dX12_init_817 (by decide) ?_
  refine sv_iload_n (pc := 819) dX12_init_819 rfl rfl ?_
  refine sw_imul (pc := 820) (v := 18) dX12_init_820 (by decide) ?_
  refine sv_iload_n (pc := 821) dX12_init_821 rfl rfl ?_
  refine sw_iadd (pc := 822) (v := 22) dX12_init_822 (by decide) ?_
  refine sv_iload_n (pc := 823) dX12_init_823 rfl rfl ?_
  refine sv_iconst (pc := 824) (v := 1) dX12_init_824 (by decide) ?_
  refine sw_iadd (pc := 825) (v := 5) dX12_init_825 (by decide) ?_
  refine sw_iastore (pc := 826) (k := 22) (v := .int 5) dX12_init_826 rfl rfl rfl (by decide) (by decide) rfl rfl ?_
  refine sw_iinc (pc := 827) (v := 5) dX12_init_827 rfl (by decide) (by decide) ?_
  refine sv_goto (pc := 830) (tgt := 808) dX12_init_830 (by decide) ?_
  refine sv_iload_n (pc := 808) dX12_init_808 rfl rfl ?_
  refine sv_iconst (pc := 809) (v := 5) dX12_init_809 (by decide) ?_
  refine sv_icmp_ge (pc := 810) (tgt := 833) dX12_init_810 (by decide) (fun _ => ?_) (fun h => absurd (by decide) h)
  refine sw_iinc (pc := 833) (v := 4) dX12_init_833 rfl (by decide) (by decide) ?_
  refine sv_goto (pc := 836) (tgt := 800) dX12_init_836 (by decide) ?_
  refine sv_iload_n (pc := 800) dX12_init_800 rfl rfl ?_
  refine sv_bipush (pc := 801) (v := 10) dX12_init_801 (by decide) ?_
  refine sv_icmp_ge (pc := 803) (tgt := 839) dX12_init_803 (by decide) (fun h => absurd h (by decide)) (fun _ => ?_)
  refine sv_iconst (pc := 806) (v := 0) dX12_init_806 (by decide) ?_
  refine sv_istore_n (pc := 807) dX12_init_807 rfl (by decide) ?_
  refine sv_iload_n (pc := 808) dX12_init_808 rfl rfl ?_
  refine sv_iconst (pc := 809) (v := 5) dX12_init_809 (by decide) ?_
  refine sv_icmp_ge (pc := 810) (tgt := 833) dX12_init_810 (by decide) (fun h => absurd h (by decide)) (fun _ => ?_)
  refine sv_aload_n (pc := 813) dX12_init_813 rfl rfl ?_
  refine sw_getfield (pc := 814) dX12_init_814 (gCX12 _ _ _ _ _) 83 (by decide) wF_X12_451 rfl rfl rfl ?_
  refine sv_bipush (pc := 817) (v := 6) dX12_init_817 (by decide) ?_
  refine sv_iload_n (pc := 819) dX12_init_819 rfl rfl ?_
  refine sw_imul (pc := 820) (v := 24) dX12_init_820 (by decide) ?_
  refine sv_iload_n (pc := 821) dX12_init_821 rfl rfl ?_
  refine sw_iadd (pc := 822) (v := 24) dX12_init_822 (by decide) ?_
  refine sv_iload_n (pc := 823) dX12_init_823 rfl rfl ?_
  refine sv_iconst (pc := 824) (v := 1) dX12_init_824 (by decide) ?_
  refine sw_iadd (pc := 825) (v := 1) dX12_init_825 (by decide) ?_
  refine sw_iastore (pc := 826) (k := 24) (v := .int 1) dX12_init_826 rfl rfl rfl (by decide) (by decide) rfl rfl ?_
  refine sw_iinc (pc := 827) (v := 1) dX12_init_827 rfl (by decide) (by decide) ?_
  refine sv_goto (pc := 830) (tgt := 808) dX12_init_830 (by decide) ?_
  refine sv_iload_n (pc := 808) dX12_init_808 rfl rfl ?_
  refine sv_iconst (pc := 809) (v := 5) dX12_init_809 (by decide) ?_
  refine sv_icmp_ge (pc := 810) (tgt := 833) dX12_init_810 (by decide) (fun h => absurd h (by decide)) (fun _ => ?_)
  refine sv_aload_n (pc := 813) dX12_init_813 rfl rfl ?_
  refine sw_getfield (pc := 814) dX12_init_814 (gCX12 _ _ _ _ _) 83 (by decide) wF_X12_451 rfl rfl rfl ?_
  refine sv_bipush (pc := 817) (v := 6) dX12_init_817 (by decide) ?_
  refine sv_iload_n (pc := 819) dX12_init_819 rfl rfl ?_
  refine sw_imul (pc := 820) (v := 24) dX12_init_820 (by decide) ?_
  refine sv_iload_n (pc := 821) dX12_init_821 rfl rfl ?_
  refine sw_iadd (pc := 822) (v := 25) dX12_init_822 (by decide) ?_
  refine sv_iload_n (pc := 823) dX12_init_823 rfl rfl ?_
  refine sv_iconst (pc := 824) (v := 1) dX12_init_824 (by decide) ?_
  refine sw_iadd (pc := 825) (v := 2) dX12_init_825 (by decide) ?_
  refine sw_iastore (pc := 826) (k := 25) (v := .int 2) dX12_init_826 rfl rfl rfl (by decide) (by decide) rfl rfl ?_
  refine sw_iinc (pc := 827) (v := 2) dX12_init_827 rfl (by decide) (by decide) ?_
  refine sv_goto (pc := 830) (tgt := 808) dX12_init_830 (by decide) ?_
  refine sv_iload_n (pc := 808) dX12_init_808 rfl rfl ?_
  refine sv_iconst (pc := 809) (v := 5) dX12_init_809 (by decide) ?_
  refine sv_icmp_ge (pc := 810) (tgt := 833) dX12_init_810 (by decide) (fun h => absurd h (by decide)) (fun _ => ?_)
  refine sv_aload_n (pc := 813) dX12_init_813 rfl rfl ?_
  refine sw_getfield (pc := 814) dX12_init_814 (gCX12 _ _ _ _ _) 83 (by decide) wF_X12_451 rfl rfl rfl ?_
  refine sv_bipush (pc := 817) (v := 6) dX12_init_817 (by decide) ?_
  refine sv_iload_n (pc := 819) dX12_init_819 rfl rfl ?_
  refine sw_imul (pc := 820) (v := 24) dX12_init_820 (by decide) ?_
  refine sv_iload_n (pc := 821) dX12_init_821 rfl rfl ?_
  refine sw_iadd (pc := 822) (v := 26) dX12_init_822 (by decide) ?_
  refine sv_iload_n (pc := 823) dX12_init_823 rfl rfl ?_
  refine sv_iconst (pc := 824) (v := 1) dX12_init_824 (by decide) ?_
  refine sw_iadd (pc := 825) (v := 3) dX12_init_825 (by decide) ?_
  refine sw_iastore (pc := 826) (k := 26) (v := .int 3) dX12_init_826 rfl rfl rfl (by decide) (by decide) rfl rfl ?_
  refine sw_iinc (pc := 827) (v := 3) dX12_init_827 rfl (by decide) (by decide) ?_
  refine sv_goto (pc := 830) (tgt := 808) dX12_init_830 (by decide) ?_
  refine sv_iload_n (pc := 808) dX12_init_808 rfl rfl ?_
  refine sv_iconst (pc := 809) (v := 5) dX12_init_809 (by decide) ?_
  refine sv_icmp_ge (pc := 810) (tgt := 833) dX12_init_810 (by decide) (fun h => absurd h (by decide)) (fun _ => ?_)
  refine sv_aload_n (pc := 813) dX12_init_813 rfl rfl ?_
  refine sw_getfield (pc := 814) dX12_init_814 (gCX12 _ _ _ _ _) 83 (by decide) wF_X12_451 rfl rfl rfl ?_
  refine sv_bipush (pc := 817) (v := 6) dX12_init_817 (by decide) ?_
  refine sv_iload_n (pc := 819) dX12_init_819 rfl rfl ?_
  refine sw_imul (pc := 820) (v := 24) dX12_init_820 (by decide) ?_
  refine sv_iload_n (pc := 821) dX12_init_821 rfl rfl ?_
  refine sw_iadd (pc := 822) (v := 27) dX12_init_822 (by decide) ?_
  refine sv_iload_n (pc := 823) dX12_init_823 rfl rfl ?_
  refine sv_iconst (pc := 824) (v := 1) dX12_init_824 (by decide) ?_
  refine sw_iadd (pc := 825) (v := 4) dX12_init_825 (by decide) ?_
  refine sw_iastore (pc := 826) (k := 27) (v := .int 4) dX12_init_826 rfl rfl rfl (by decide) (by decide) rfl rfl ?_
  refine sw_iinc (pc := 827) (v := 4) dX12_init_827 rfl (by decide) (by decide) ?_
  refine sv_goto (pc := 830) (tgt := 808) dX12_init_830 (by decide) ?_
  refine sv_iload_n (pc := 808) dX12_init_808 rfl rfl ?_
  refine sv_iconst (pc := 809) (v := 5) dX12_init_809 (by decide) ?_
  refine sv_icmp_ge (pc := 810) (tgt := 833) dX12_init_810 (by decide) (fun h => absurd h (by decide)) (fun _ => ?_)
  refine sv_aload_n (pc := 813) dX12_init_813 rfl rfl ?_
  refine sw_getfield (pc := 814) dX12_init_814 (gCX12 _ _ _ _ _) 83 (by decide) wF_X12_451 rfl rfl rfl ?_
  refine sv_bipush (pc := 817) (v := 6) dX12_init_817 (by decide) ?_
  refine sv_iload_n (pc := 819) dX12_init_819 rfl rfl ?_
  refine sw_imul (pc := 820) (v := 24) dX12_init_820 (by decide) ?_
  refine sv_iload_n (pc := 821) dX12_init_821 rfl rfl ?_
  refine sw_iadd (pc := 822) (v := 28) dX12_init_822 (by decide) ?_
  refine sv_iload_n (pc := 823) dX12_init_823 rfl rfl ?_
  refine sv_iconst (pc := 824) (v := 1) dX12_init_824 (by decide) ?_
  refine sw_iadd (pc := 825) (v := 5) dX12_init_825 (by decide) ?_
  refine sw_iastore (pc := 826) (k := 28) (v := .int 5) dX12_init_826 rfl rfl rfl (by decide) (by decide) rfl rfl ?_
  refine sw_iinc (pc := 827) (v := 5) dX12_init_827 rfl (by decide) (by decide) ?_
  refine sv_goto (pc := 830) (tgt := 808) dX12_init_830 (by decide) ?_
  refine sv_iload_n (pc := 808) dX12_init_808 rfl rfl ?_
  refine sv_iconst (pc := 809) (v := 5) dX12_init_809 (by decide) ?_
  refine sv_icmp_ge (pc := 810) (tgt := 833) dX12_init_810 (by decide) (fun _ => ?_) (fun h => absurd (by decide) h)
  refine sw_iinc (pc := 833) (v := 5) dX12_init_833 rfl (by decide) (by decide) ?_
  refine sv_goto (pc := 836) (tgt := 800) dX12_init_836 (by decide) ?_
  refine sv_iload_n (pc := 800) dX12_init_800 rfl rfl ?_
  refine sv_bipush (pc := 801) (v := 10) dX12_init_801 (by decide) ?_
  refine sv_icmp_ge (pc := 803) (tgt := 839) dX12_init_803 (by decide) (fun h => absurd h (by decide)) (fun _ => ?_)
  refine sv_iconst (pc := 806) (v := 0) dX12_init_806 (by decide) ?_
  refine sv_istore_n (pc := 807) dX12_init_807 rfl (by decide) ?_
  refine sv_iload_n (pc := 808) dX12_init_808 rfl rfl ?_
  refine sv_iconst (pc := 809) (v := 5) dX12_init_809 (by decide) ?_
  refine sv_icmp_ge (pc := 810) (tgt := 833) dX12_init_810 (by decide) (fun h => absurd h (by decide)) (fun _ => ?_)
  refine sv_aload_n (pc := 813) dX12_init_813 rfl rfl ?_
  refine sw_getfield (pc := 814) dX12_init_814 (gCX12 _ _ _ _ _) 83 (by decide) wF_X12_451 rfl rfl rfl ?_
  refine sv_bipush (pc := 817) (v := 6) dX12_init_817 (by decide) ?_
  refine sv_iload_n (pc := 819) dX12_init_819 rfl rfl ?_
  refine sw_imul (pc := 820) (v := 30) dX12_init_820 (by decide) ?_
  refine sv_iload_n (pc := 821) dX12_init_821 rfl rfl ?_
  refine sw_iadd (pc := 822) (v := 30) dX12_init_822 (by decide) ?_
  refine sv_iload_n (pc := 823) dX12_init_823 rfl rfl ?_
  refine sv_iconst (pc := 824) (v := 1) dX12_init_824 (by decide) ?_
  refine sw_iadd (pc := 825) (v := 1) dX12_init_825 (by decide) ?_
  refine sw_iastore (pc := 826) (k := 30) (v := .int 1) dX12_init_826 rfl rfl rfl (by decide) (by decide) rfl rfl ?_
  refine sw_iinc (pc := 827) (v := 1) dX12_init_827 rfl (by decide) (by decide) ?_
  refine sv_goto (pc := 830) (tgt := 808) dX12_init_830 (by decide) ?_
  refine sv_iload_n (pc := 808) dX12_init_808 rfl rfl ?_
  refine sv_iconst (pc := 809) (v := 5) dX12_init_809 (by decide) ?_
  refine sv_icmp_ge (pc := 810) (tgt := 833) dX12_init_810 (by decide) (fun h => absurd h (by decide)) (fun _ => ?_)
  refine sv_aload_n (pc := 813) dX12_init_813 rfl rfl ?_
  refine sw_getfield (pc := 814) dX12_init_814 (gCX12 _ _ _ _ _) 83 (by decide) wF_X12_451 rfl rfl rfl ?_
  refine sv_bipush (pc := 817) (v := 6) dX12_init_817 (by decide) ?_
  refine sv_iload_n (pc := 819) dX12_init_819 rfl rfl ?_
  refine sw_imul (pc := 820) (v := 30) dX12_init_820 (by decide) ?_
  refine sv_iload_n (pc := 821) dX12_init_821 rfl rfl ?_
  refine sw_iadd (pc := 822) (v := 31) dX12_init_822 (by decide) ?_
  refine sv_iload_n (pc := 823) dX12_init_823 rfl rfl ?_
  refine sv_iconst (pc := 824) (v := 1) dX12_init_824 (by decide) ?_
  refine sw_iadd (pc := 825) (v := 2) dX12_init_825 (by decide) ?_
  refine sw_iastore (pc := 826) (k := 31) (v := .int 2) dX12_init_826 rfl rfl rfl (by decide) (by decide) rfl rfl ?_
  refine sw_iinc (pc := 827) (v := 2) dX12_init_827 rfl (by decide) (by decide) ?_
  refine sv_goto (pc := 830) (tgt := 808) dX12_init_830 (by decide) ?_
  refine sv_iload_n (pc := 808) dX12_init_808 rfl rfl ?_
  refine sv_iconst (pc := 809) (v := 5) dX12_init_809 (by decide) ?_
  refine sv_icmp_ge (pc := 810) (tgt := 833) dX12_init_810 (by decide) (fun h => absurd h (by decide)) (fun _ => ?_)
  refine sv_aload_n (pc := 813) dX12_init_813 rfl rfl ?_
  refine sw_getfield (pc := 814) dX12_init_814 (gCX12 _ _ _ _ _) 83 (by decide) wF_X12_451 rfl rfl rfl ?_
  refine sv_bipush (pc := 817) (v := 6) dX12_init_817 (by decide) ?_
  refine sv_iload_n (pc := 819) dX12_init_819 rfl rfl ?_
  refine sw_imul (pc := 820) (v := 30) dX12_init_820 (by decide) ?_
  refine sv_iload_n (pc := 821) dX12_init_821 rfl rfl ?_
  refine sw_iadd (pc := 822) (v := 32) dX12_init_822 (by decide) ?_
  refine sv_iload_n (pc := 823) dX12_init_823 rfl rfl ?_
  refine sv_iconst (pc := 824) (v := 1) dX12_init_824 (by decide) ?_
  refine sw_iadd (pc := 825) (v := 3) dX12_init_825 (by decide) ?_
  refine sw_iastore (pc := 826) (k := 32) (v := .int 3) dX12_init_826 rfl rfl rfl (by decide) (by decide) rfl rfl ?_
  refine sw_iinc (pc := 827) (v := 3) dX12_init_827 rfl (by decide) (by decide) ?_
  refine sv_goto (pc := 830) (tgt := 808) dX12_init_830 (by decide) ?_
  refine sv_iload_n (pc := 808) dX12_init_808 rfl rfl ?_
  refine sv_iconst (pc := 809) (v := 5) dX12_init_809 (by decide) ?_
  refine sv_icmp_ge (pc := 810) (tgt := 833) dX12_init_810 (by decide) (fun h => absurd h (by decide)) (fun _ => ?_)
  refine sv_aload_n (pc := 813) dX12_init_813 rfl rfl ?_
  refine sw_getfield (pc := 814) dX12_init_814 (gCX12 _ _ _ _ _) 83 (by decide) wF_X12_451 rfl rfl rfl ?_
  refine sv_bipush (pc := 817) (v := 6) dX12_init_817 (by decide) ?_
  refine sv_iload_n (pc := 819) dX12_init_819 rfl rfl ?_
  refine sw_imul (pc := 820) (v := 30) dX12_init_820 (by decide) ?_
  refine sv_iload_n (pc := 821) dX12_init_821 rfl rfl ?_
  refine sw_iadd (pc := 822) (v := 33) dX12_init_822 (by decide) ?_
  refine sv_iload_n (pc := 823) dX12_init_823 rfl rfl ?_
  refine sv_iconst (pc := 824) (v := 1) dX12_init_824 (by decide) ?_
  refine sw_iadd (pc := 825) (v := 4) dX12_init_825 (by decide) ?_
  refine sw_iastore (pc := 826) (k := 33) (v := .int 4) dX12_init_826 rfl rfl rfl (by decide) (by decide) rfl rfl ?_
  refine sw_iinc (pc := 827) (v := 4) dX12_init_827 rfl (by decide) (by decide) ?_
  refine sv_goto (pc := 830) (tgt := 808) dX12_init_830 (by decide) ?_
  refine sv_iload_n (pc := 808) dX12_init_808 rfl rfl ?_
  refine sv_iconst (pc := 809) (v := 5) dX12_init_809 (by decide) ?_
  refine sv_icmp_ge (pc := 810) (tgt := 833) dX12_init_810 (by decide) (fun h => absurd h (by decide)) (fun _ => ?_)
  refine sv_aload_n (pc := 813) dX12_init_813 rfl rfl ?_
  refine sw_getfield (pc := 814) dX12_init_814 (gCX12 _ _ _ _ _) 83 (by decide) wF_X12_451 rfl rfl rfl ?_
  refine sv_bipush (pc := 817) (v := 6) dX12_init_817 (by decide) ?_
  refine sv_iload_n (pc := 819) dX12_init_819 rfl rfl ?_
  refine sw_imul (pc := 820) (v := 30) dX12_init_820 (by decide) ?_
  refine sv_iload_n (pc := 821) dX12_init_821 rfl rfl ?_
  refine sw_iadd (pc := 822) (v := 34) dX12_init_822 (by decide) ?_
  refine sv_iload_n (pc := 823) dX12_init_823 rfl rfl ?_
  refine sv_iconst (pc := 824) (v := 1) dX12_init_824 (by decide) ?_
  refine sw_iadd (pc := 825) (v := 5) dX12_init_825 (by decide) ?_
  refine sw_iastore (pc := 826) (k := 34) (v := .int 5) dX12_init_826 rfl rfl rfl (by decide) (by decide) rfl rfl ?_
  refine sw_iinc (pc := 827) (v := 5) dX12_init_827 rfl (by decide) (by decide) ?_
  refine sv_goto (pc := 830) (tgt := 808) dX12_init_830 (by decide) ?_
  refine sv_iload_n (pc := 808) dX12_init_808 rfl rfl ?_
  refine sv_iconst (pc := 809) (v := 5) dX12_init_809 (by decide) ?_
  refine sv_icmp_ge (pc := 810) (tgt := 833) dX12_init_810 (by decide) (fun _ => ?_) (fun h => absurd (by decide) h)
  refine sw_iinc (pc := 833) (v := 6) dX12_init_833 rfl (by decide) (by decide) ?_
  refine sv_goto (pc := 836) (tgt := 800) dX12_init_836 (by decide) ?_
  refine sv_iload_n (pc := 800) dX12_init_800 rfl rfl ?_
  refine sv_bipush (pc := 801) (v := 10) dX12_init_801 (by decide) ?_
  refine sv_icmp_ge (pc := 803) (tgt := 839) dX12_init_803 (by decide) (fun h => absurd h (by decide)) (fun _ => ?_)
  refine sv_iconst (pc := 806) (v := 0) dX12_init_806 (by decide) ?_
  refine sv_istore_n (pc := 807) dX12_init_807 rfl (by decide) ?_
  refine sv_iload_n (pc := 808) dX12_init_808 rfl rfl ?_
  refine sv_iconst (pc := 809) (v := 5) dX12_init_809 (by decide) ?_
  refine sv_icmp_ge (pc := 810) (tgt := 833) dX12_init_810 (by decide) (fun h => absurd h (by decide)) (fun _ => ?_)
  refine sv_aload_n (pc := 813) dX12_init_813 rfl rfl ?_
  refine sw_getfield (pc := 814) dX12_init_814 (gCX12 _ _ _ _ _) 83 (by decide) wF_X12_451 rfl rfl rfl ?_
  refine sv_bipush (pc := 817) (v := 6) dX12_init_817 (by decide) ?_
  refine sv_iload_n (pc := 819) dX12_init_819 rfl rfl ?_
  refine sw_imul (pc := 820) (v := 36) dX12_init_820 (by decide) ?_
  refine sv_iload_n (pc := 821) dX12_init_821 rfl rfl ?_
  refine sw_iadd (pc := 822) (v := 36) dX12_init_822 (by decide) ?_
  refine sv_iload_n (pc := 823) dX12_init_823 rfl rfl ?_
  refine sv_iconst (pc := 824) (v := 1) dX12_init_824 (by decide) ?_
  refine sw_iadd (pc := 825) (v := 1) dX12_init_825 (by decide) ?_
  refine sw_iastore (pc := 826) (k := 36) (v := .int 1) dX12_init_826 rfl rfl rfl (by decide) (by decide) rfl rfl ?_
  refine sw_iinc (pc := 827) (v := 1) dX12_init_827 rfl (by decide) (by decide) ?_
  refine sv_goto (pc := 830) (tgt := 808) dX12_init_830 (by decide) ?_
  refine sv_iload_n (pc := 808) dX12_init_808 rfl rfl ?_
  refine sv_iconst (pc := 809) (v := 5) dX12_init_809 (by decide) ?_
  refine sv_icmp_ge (pc := 810) (tgt := 833) dX12_init_810 (by decide) (fun h => absurd h (by decide)) (fun _ => ?_)
  refine sv_aload_n (pc := 813) dX12_init_813 rfl rfl ?_
  refine sw_getfield (pc := 814) dX12_init_814 (gCX12 _ _ _ _ _) 83 (by decide) wF_X12_451 rfl rfl rfl ?_
  refine sv_bipush (pc := 817) (v := 6) dX12_init_817 (by decide) ?_
  refine sv_iload_n (pc := 819) dX12_init_819 rfl rfl ?_
  refine sw_imul (pc := 820) (v := 36) dX12_init_820 (by decide) ?_
  refine sv_iload_n (pc := 821) dX12_init_821 rfl rfl ?_
  refine sw_iadd (pc := 822) (v := 37) dX12_init_822 (by decide) ?_
  refine sv_iload_n (pc := 823) dX12_init_823 rfl rfl ?_
  refine sv_iconst (pc := 824) (v := 1) dX12_init_824 (by decide) ?_
  refine sw_iadd (pc := 825) (v := 2) dX12_init_825 (by decide) ?_
  refine sw_iastore (pc := 826) (k := 37) (v := .int 2) dX12_init_826 rfl rfl rfl (by decide) (by decide) rfl rfl ?_
  refine sw_iinc (pc := 827) (v := 2) dX12_init_827 rfl (by decide) (by decide) ?_
  refine sv_goto (pc := 830) (tgt := 808) dX12_init_830 (by decide) ?_
  refine sv_iload_n (pc := 808) dX12_init_808 rfl rfl ?_
  refine sv_iconst (pc := 809) (v := 5) dX12_init_809 (by decide) ?_
  refine sv_icmp_ge (pc := 810) (tgt := 833) dX12_init_810 (by decide) (fun h => absurd h (by decide)) (fun _ => ?_)
  refine sv_aload_n (pc := 813) dX12_init_813 rfl rfl ?_
  refine sw_getfield (pc := 814) dX12_init_814 (gCX12 _ _ _ _ _) 83 (by decide) wF_X12_451 rfl rfl rfl ?_
  refine sv_bipush (pc := 817) (v := 6) dX12_init_817 (by decide) ?_
  refine sv_iload_n (pc := 819) dX12_init_819 rfl rfl ?_
  refine sw_imul (pc := 820) (v := 36) dX12_init_820 (by decide) ?_
  refine sv_iload_n (pc := 821) dX12_init_821 rfl rfl ?_
  refine sw_iadd (pc := 822) (v := 38) dX12_init_822 (by decide) ?_
  refine sv_iload_n (pc := 823) dX12_init_823 rfl rfl ?_
  refine sv_iconst (pc := 824) (v := 1) dX12_init_824 (by decide) ?_
  refine sw_iadd (pc := 825) (v := 3) dX12_init_825 (by decide) ?_
  refine sw_iastore (pc := 826) (k := 38) (v := .int 3) dX12_init_826 rfl rfl rfl (by decide) (by decide) rfl rfl ?_
  refine sw_iinc (pc := 827) (v := 3) dX12_init_827 rfl (by decide) (by decide) ?_
  refine sv_goto (pc := 830) (tgt := 808) dX12_init_830 (by decide) ?_
  refine sv_iload_n (pc := 808) dX12_init_808 rfl rfl ?_
  refine sv_iconst (pc := 809) (v := 5) dX12_init_809 (by decide) ?_
  refine sv_icmp_ge (pc := 810) (tgt := 833) dX12_init_810 (by decide) (fun h => absurd h (by decide)) (fun _ => ?_)
  refine sv_aload_n (pc := 813) dX12_init_813 rfl rfl ?_
  refine sw_getfield (pc := 814) dX12_init_814 (gCX12 _ _ _ _ _) 83 (by decide) wF_X12_451 rfl rfl rfl ?_
  refine sv_bipush (pc := 817) (v := 6) dX12_init_817 (by decide) ?_
  refine sv_iload_n (pc := 819) dX12_init_819 rfl rfl ?_
  refine sw_imul (pc := 820) (v := 36) dX12_init_820 (by decide) ?_
  refine sv_iload_n (pc := 821) dX12_init_821 rfl rfl ?_
  refine sw_iadd (pc := 822) (v := 39) dX12_init_822 (by decide) ?_
  refine sv_iload_n (pc := 823) dX12_init_823 rfl rfl ?_
  refine sv_iconst (pc := 824) (v := 1) dX12_init_824 (by decide) ?_
  refine sw_iadd (pc := 825) (v := 4) dX12_init_825 (by decide) ?_
  refine sw_iastore (pc := 826) (k := 39) (v := .int 4) dX12_init_826 rfl rfl rfl (by decide) (by decide) rfl rfl ?_
  refine sw_iinc (pc := 827) (v := 4) dX12_init_827 rfl (by decide) (by decide) ?_
  refine sv_goto (pc := 830) (tgt := 808) dX12_init_830 (by decide) ?_
  refine sv_iload_n (pc := 808) dX12_init_808 rfl rfl ?_
  refine sv_iconst (pc := 809) (v := 5) dX12_init_809 (by decide) ?_
  refine sv_icmp_ge (pc := 810) (tgt := 833) dX12_init_810 (by decide) (fun h => absurd h (by decide)) (fun _ => ?_)
  refine sv_aload_n (pc := 813) dX12_init_813 rfl rfl ?_
  refine sw_getfield (pc := 814) dX12_init_814 (gCX12 _ _ _ _ _) 83 (by decide) wF_X12_451 rfl rfl rfl ?_
  refine sv_bipush (pc := 817) (v := 6) dX12_init_817 (by decide) ?_
  refine sv_iload_n (pc := 819) dX12_init_819 rfl rfl ?_
  refine sw_imul (pc := 820) (v := 36) dX12_init_820 (by decide) ?_
  refine sv_iload_n (pc := 821) dX12_init_821 rfl rfl ?_
  refine sw_iadd (pc := 822) (v := 40) dX12_init_822 (by decide) ?_
  refine sv_iload_n (pc := 823) dX12_init_823 rfl rfl ?_
  refine sv_iconst (pc := 824) (v := 1) dX12_init_824 (by decide) ?_
  refine sw_iadd (pc := 825) (v := 5) dX12_init_825 (by decide) ?_
  refine sw_iastore (pc := 826) (k := 40) (v := .int 5) dX12_init_826 rfl rfl rfl (by decide) (by decide) rfl rfl ?_
  refine sw_iinc (pc := 827) (v := 5) dX12_init_827 rfl (by decide) (by decide) ?_
  refine sv_goto (pc := 830) (tgt := 808) dX12_init_830 (by decide) ?_
  refine sv_iload_n (pc := 808) dX12_init_808 rfl rfl ?_
  refine sv_iconst (pc := 809) (v := 5) dX12_init_809 (by decide) ?_
  refine sv_icmp_ge (pc := 810) (tgt := 833) dX12_init_810 (by decide) (fun _ => ?_) (fun h => absurd (by decide) h)
  refine sw_iinc (pc := 833) (v := 7) dX12_init_833 rfl (by decide) (by decide) ?_
  refine sv_goto (pc := 836) (tgt := 800) dX12_init_836 (by decide) ?_
  refine sv_iload_n (pc := 800) dX12_init_800 rfl rfl ?_
  refine sv_bipush (pc := 801) (v := 10) dX12_init_801 (by decide) ?_
  refine sv_icmp_ge (pc := 803) (tgt := 839) dX12_init_803 (by decide) (fun h => absurd h (by decide)) (fun _ => ?_)
  refine sv_iconst (pc := 806) (v := 0) dX12_init_806 (by decide) ?_
  refine sv_istore_n (pc := 807) dX12_init_807 rfl (by decide) ?_
  refine sv_iload_n (pc := 808) dX12_init_808 rfl rfl ?_
  refine sv_iconst (pc := 809) (v := 5) dX12_init_809 (by decide) ?_
  refine sv_icmp_ge (pc := 810) (tgt := 833) dX12_init_810 (by decide) (fun h => absurd h (by decide)) (fun _ => ?_)
  refine sv_aload_n (pc := 813) dX12_init_813 rfl rfl ?_
  refine sw_getfield (pc := 814) dX12_init_814 (gCX12 _ _ _ _ _) 83 (by decide) wF_X12_451 rfl rfl rfl ?_
  refine sv_bipush (pc := 817) (v := 6) dX12_init_817 (by decide) ?_
  refine sv_iload_n (pc := 819) dX12_init_819 rfl rfl ?_
  refine sw_imul (pc := 820) (v := 42) dX12_init_820 (by decide) ?_
  refine sv_iload_n (pc := 821) dX12_init_821 rfl rfl ?_
  refine sw_iadd (pc := 822) (v := 42) dX12_init_822 (by decide) ?_
  refine sv_iload_n (pc := 823) dX12_init_823 rfl rfl ?_
  refine sv_iconst (pc := 824) (v := 1) dX12_init_824 (by decide) ?_
  refine sw_iadd (pc := 825) (v := 1) dX12_init_825 (by decide) ?_
  refine sw_iastore (pc := 826) (k := 42) (v := .int 1) dX12_init_826 rfl rfl rfl (by decide) (by decide) rfl rfl ?_
  refine sw_iinc (pc := 827) (v := 1) dX12_init_827 rfl (by decide) (by decide) ?_
  refine sv_goto (pc := 830) (tgt := 808) dX12_init_830 (by decide) ?_
  refine sv_iload_n (pc := 808) dX12_init_808 rfl rfl ?_
  refine sv_iconst (pc := 809) (v := 5) dX12_init_809 (by decide) ?_
  refine sv_icmp_ge (pc := 810) (tgt := 833) dX12_init_810 (by decide) (fun h => absurd h (by decide)) (fun _ => ?_)
  refine sv_aload_n (pc := 813) dX12_init_813 rfl rfl ?_
  refine sw_getfield (pc := 814) dX12_init_814 (gCX12 _ _ _ _ _) 83 (by decide) wF_X12_451 rfl rfl rfl ?_
  refine sv_bipush (pc := 817) (v := 6) dX12_init_817 (by decide) ?_
  refine sv_iload_n (pc := 819) dX12_init_819 rfl rfl ?_
  refine sw_imul (pc := 820) (v := 42) dX12_init_820 (by decide) ?_
  refine sv_iload_n (pc := 821) dX12_init_821 rfl rfl ?_
  refine sw_iadd (pc := 822) (v := 43) dX12_init_822 (by decide) ?_
  refine sv_iload_n (pc := 823) dX12_init_823 rfl rfl ?_
  refine sv_iconst (pc := 824) (v := 1) dX12_init_824 (by decide) ?_
  refine sw_iadd (pc := 825) (v := 2) dX12_init_825 (by decide) ?_
  refine sw_iastore (pc := 826) (k := 43) (v := .int 2) dX12_init_826 rfl rfl rfl (by decide) (by decide) rfl rfl ?_
  refine sw_iinc (pc := 827) (v := 2) dX12_init_827 rfl (by decide) (by decide) ?_
  refine sv_goto (pc := 830) (tgt := 808) dX12_init_830 (by decide) ?_
  refine sv_iload_n (pc := 808) dX12_init_808 rfl rfl ?_
  refine sv_iconst (pc := 809) (v := 5) dX12_init_809 (by decide) ?_
  refine sv_icmp_ge (pc := 810) (tgt := 833) dX12_init_810 (by decide) (fun h => absurd h (by decide)) (fun _ => ?_)
  refine sv_aload_n (pc := 813) dX12_init_813 rfl rfl ?_
  refine sw_getfield (pc := 814) dX12_init_814 (gCX12 _ _ _ _ _) 83 (by decide) wF_X12_451 rfl rfl rfl ?_
  refine sv_bipush (pc := 817) (v := 6) dX12_init_817 (by decide) ?_
  refine sv_iload_n (pc := 819) dX12_init_819 rfl rfl ?_
  refine sw_imul (pc := 820) (v := 42) dX12_init_820 (by decide) ?_
  refine sv_iload_n (pc := 821) dX12_init_821 rfl rfl ?_
  refine sw_iadd (pc := 822) (v := 44) dX12_init_822 (by decide) ?_
  refine sv_iload_n (pc := 823) dX12_init_823 rfl rfl ?_
  refine sv_iconst (pc := 824) (v := 1) dX12_init_824 (by decide) ?_
  refine sw_iadd (pc := 825) (v := 3) dX12_init_825 (by decide) ?_
  refine sw_iastore (pc := 826) (k := 44) (v := .int 3) dX12_init_826 rfl rfl rfl (by decide) (by decide) rfl rfl ?_
  refine sw_iinc (pc := 827) (v := 3) dX12_init_827 rfl (by decide) (by decide) ?_
  refine sv_goto (pc := 830) (tgt := 808) dX12_init_830 (by decide) ?_
  refine sv_iload_n (pc := 808) dX12_init_808 rfl rfl ?_
  refine sv_iconst (pc := 809) (v := 5) dX12_init_809 (by decide) ?_
  refine sv_icmp_ge (pc := 810) (tgt := 833) dX12_init_810 (by decide) (fun h => absurd h (by decide)) (fun _ => ?_)
  refine sv_aload_n (pc := 813) dX12_init_813 rfl rfl ?_
  refine sw_getfield (pc := 814) dX12_init_814 (gCX12 _ _ _ _ _) 83 (by decide) wF_X12_451 rfl rfl rfl ?_
  refine sv_bipush (pc := 817) (v := 6) dX12_init_817 (by decide) ?_
  refine sv_iload_n (pc := 819) dX12_init_819 rfl rfl ?_
  refine sw_imul (pc := 820) (v := 42) dX12_init_820 (by decide) ?_
  refine sv_iload_n (pc := 821) dX12_init_821 rfl rfl ?_
  refine sw_iadd (pc := 822) (v := 45) dX12_init_822 (by decide) ?_
  refine sv_iload_n (pc := 823) dX12_init_823 rfl rfl ?_
  refine sv_iconst (pc := 824) (v := 1) dX12_init_824 (by decide) ?_
  refine sw_iadd (pc := 825) (v := 4) dX12_init_825 (by decide) ?_
  refine sw_iastore (pc := 826) (k := 45) (v := .int 4) dX12_init_826 rfl rfl rfl (by decide) (by decide) rfl rfl ?_
  refine sw_iinc (pc := 827) (v := 4) dX12_init_827 rfl (by decide) (by decide) ?_
  refine sv_goto (pc := 830) (tgt := 808) dX12_init_830 (by decide) ?_
  refine sv_iload_n (pc := 808) dX12_init_808 rfl rfl ?_
  refine sv_iconst (pc := 809) (v := 5) dX12_init_809 (by decide) ?_
  refine sv_icmp_ge (pc := 810) (tgt := 833) dX12_init_810 (by decide) (fun h => absurd h (by decide)) (fun _ => ?_)
  refine sv_aload_n (pc := 813) dX12_init_813 rfl rfl ?_
  refine sw_getfield (pc := 814) dX12_init_814 (gCX12 _ _ _ _ _) 83 (by decide) wF_X12_451 rfl rfl rfl ?_
  refine sv_bipush (pc := 817) (v := 6) dX12_init_817 (by decide) ?_
  refine sv_iload_n (pc := 819) dX12_init_819 rfl rfl ?_
  refine sw_imul (pc := 820) (v := 42) dX12_init_820 (by decide) ?_
  refine sv_iload_n (pc := 821) dX12_init_821 rfl rfl ?_
  refine sw_iadd (pc := 822) (v := 46) dX12_init_822 (by decide) ?_
  refine sv_iload_n (pc := 823) dX12_init_823 rfl rfl ?_
  refine sv_iconst (pc := 824) (v := 1) dX12_init_824 (by decide) ?_
  refine sw_iadd (pc := 825) (v := 5) dX12_init_825 (by decide) ?_
  refine sw_iastore (pc := 826) (k := 46) (v := .int 5) dX12_init_826 rfl rfl rfl (by decide) (by decide) rfl rfl ?_
  refine sw_iinc (pc := 827) (v := 5) dX12_init_827 rfl (by decide) (by decide) ?_
  refine sv_goto (pc := 830) (tgt := 808) dX12_init_830 (by decide) ?_
  refine sv_iload_n (pc := 808) dX12_init_808 rfl rfl ?_
  refine sv_iconst (pc := 809) (v := 5) dX12_init_809 (by decide) ?_
  refine sv_icmp_ge (pc := 810) (tgt := 833) dX12_init_810 (by decide) (fun _ => ?_) (fun h => absurd (by decide) h)
  refine sw_iinc (pc := 833) (v := 8) dX12_init_833 rfl (by decide) (by decide) ?_
  refine sv_goto (pc := 836) (tgt := 800) dX12_init_836 (by decide) ?_
  refine sv_iload_n (pc := 800) dX12_init_800 rfl rfl ?_
  refine sv_bipush (pc := 801) (v := 10) dX12_init_801 (by decide) ?_
  refine sv_icmp_ge (pc := 803) (tgt := 839) dX12_init_803 (by decide) (fun h => absurd h (by decide)) (fun _ => ?_)
  refine sv_iconst (pc := 806) (v := 0) dX12_init_806 (by decide) ?_
  refine sv_istore_n (pc := 807) dX12_init_807 rfl (by decide) ?_
  refine sv_iload_n (pc := 808) dX12_init_808 rfl rfl ?_
  refine sv_iconst (pc := 809) (v := 5) dX12_init_809 (by decide) ?_
  refine sv_icmp_ge (pc := 810) (tgt := 833) dX12_init_810 (by decide) (fun h => absurd h (by decide)) (fun _ => ?_)
  refine sv_aload_n (pc := 813) dX12_init_813 rfl rfl ?_
  refine sw_getfield (pc := 814) dX12_init_814 (gCX12 _ _ _ _ _) 83 (by decide) wF_X12_451 rfl rfl rfl ?_
  refine sv_bipush (pc := 817) (v := 6) dX12_init_817 (by decide) ?_
  refine sv_iload_n (pc := 819) dX12_init_819 rfl rfl ?_
  refine sw_imul (pc := 820) (v := 48) dX12_init_820 (by decide) ?_
  refine sv_iload_n (pc := 821) dX12_init_821 rfl rfl ?_
  refine sw_iadd (pc := 822) (v := 48) dX12_init_822 (by decide) ?_
  refine sv_iload_n (pc := 823) dX12_init_823 rfl rfl ?_
  refine sv_iconst (pc := 824) (v := 1) dX12_init_824 (by decide) ?_
  refine sw_iadd (pc := 825) (v := 1) dX12_init_825 (by decide) ?_
  refine sw_iastore (pc := 826) (k := 48) (v := .int 1) dX12_init_826 rfl rfl rfl (by decide) (by decide) rfl rfl ?_
  refine sw_iinc (pc := 827) (v := 1) dX12_init_827 rfl (by decide) (by decide) ?_
  refine sv_goto (pc := 830) (tgt := 808) dX12_init_830 (by decide) ?_
  refine sv_iload_n (pc := 808) dX12_init_808 rfl rfl ?_
  refine sv_iconst (pc := 809) (v := 5) dX12_init_809 (by decide) ?_
  refine sv_icmp_ge (pc := 810) (tgt := 833) dX12_init_810 (by decide) (fun h => absurd h (by decide)) (fun _ => ?_)
  refine sv_aload_n (pc := 813) dX12_init_813 rfl rfl ?_
  refine sw_getfield (pc := 814) dX12_init_814 (gCX12 _ _ _ _ _) 83 (by decide) wF_X12_451 rfl rfl rfl ?_
  refine sv_bipush (pc := 817) (v := 6) dX12_init_817 (by decide) ?_
  refine sv_iload_n (pc := 819) dX12_init_819 rfl rfl ?_
  refine sw_imul (pc := 820) (v := 48) dX12_init_820 (by decide) ?_
  refine sv_iload_n (pc := 821) dX12_init_821 rfl rfl ?_
  refine sw_iadd (pc := 822) (v := 49) dX12_init_822 (by decide) ?_
  refine sv_iload_n (pc := 823) dX12_init_823 rfl rfl ?_
  refine sv_iconst (pc := 824) (v := 1) dX12_init_824 (by decide) ?_
  refine sw_iadd (pc := 825) (v := 2) dX12_init_825 (by decide) ?_
  refine sw_iastore (pc := 826) (k := 49) (v := .int 2) dX12_init_826 rfl rfl rfl (by decide) (by decide) rfl rfl ?_
  refine sw_iinc (pc := 827) (v := 2) dX12_init_827 rfl (by decide) (by decide) ?_
  refine sv_goto (pc := 830) (tgt := 808) dX12_init_830 (by decide) ?_
  refine sv_iload_n (pc := 808) dX12_init_808 rfl rfl ?_
  refine sv_iconst (pc := 809) (v := 5) dX12_init_809 (by decide) ?_
  refine sv_icmp_ge (pc := 810) (tgt := 833) dX12_init_810 (by decide) (fun h => absurd h (by decide)) (fun _ => ?_)
  refine sv_aload_n (pc := 813) dX12_init_813 rfl rfl ?_
  refine sw_getfield (pc := 814) dX12_init_814 (gCX12 _ _ _ _ _) 83 (by decide) wF_X12_451 rfl rfl rfl ?_
  refine sv_bipush (pc := 817) (v := 6) dX12_init_817 (by decide) ?_
  refine sv_iload_n (pc := 819) dX12_init_819 rfl rfl ?_
  refine sw_imul (pc := 820) (v := 48) dX12_init_820 (by decide) ?_
  refine sv_iload_n (pc := 821) dX12_init_821 rfl rfl ?_
  refine sw_iadd (pc := 822) (v := 50) dX12_init_822 (by decide) ?_
  refine sv_iload_n (pc := 823) dX12_init_823 rfl rfl ?_
  refine sv_iconst (pc := 824) (v := 1) dX12_init_824 (by decide) ?_
  refine sw_iadd (pc := 825) (v := 3) dX12_init_825 (by decide) ?_
  refine sw_iastore (pc := 826) (k := 50) (v := .int 3) dX12_init_826 rfl rfl rfl (by decide) (by decide) rfl rfl ?_
  refine sw_iinc (pc := 827) (v := 3) dX12_init_827 rfl (by decide) (by decide) ?_
  refine sv_goto (pc := 830) (tgt := 808) dX12_init_830 (by decide) ?_
  refine sv_iload_n (pc := 808) dX12_init_808 rfl rfl ?_
  refine sv_iconst (pc := 809) (v := 5) dX12_init_809 (by decide) ?_
  refine sv_icmp_ge (pc := 810) (tgt := 833) dX12_init_810 (by decide) (fun h => absurd h (by decide)) (fun _ => ?_)
  refine sv_aload_n (pc := 813) dX12_init_813 rfl rfl ?_
  refine sw_getfield (pc := 814) dX12_init_814 (gCX12 _ _ _ _ _) 83 (by decide) wF_X12_451 rfl rfl rfl ?_
  refine sv_bipush (pc := 817) (v := 6) dX12_init_817 (by decide) ?_
  refine sv_iload_n (pc := 819) dX12_init_819 rfl rfl ?_
  refine sw_imul (pc := 820) (v := 48) dX12_init_820 (by decide) ?_
  refine sv_iload_n (pc := 821) dX12_init_821 rfl rfl ?_
  refine sw_iadd (pc := 822) (v := 51) dX12_init_822 (by decide) ?_
  refine sv_iload_n (pc := 823) dX12_init_823 rfl rfl ?_
  refine sv_iconst (pc := 824) (v := 1) dX12_init_824 (by decide) ?_
  refine sw_iadd (pc := 825) (v := 4) dX12_init_825 (by decide) ?_
  refine sw_iastore (pc := 826) (k := 51) (v := .int 4) dX12_init_826 rfl rfl rfl (by decide) (by decide) rfl rfl ?_
  refine sw_iinc (pc := 827) (v := 4) dX12_init_827 rfl (by decide) (by decide) ?_
  refine sv_goto (pc := 830) (tgt := 808) dX12_init_830 (by decide) ?_
  refine sv_iload_n (pc := 808) dX12_init_808 rfl rfl ?_
  refine sv_iconst (pc := 809) (v := 5) dX12_init_809 (by decide) ?_
  refine sv_icmp_ge (pc := 810) (tgt := 833) dX12_init_810 (by decide) (fun h => absurd h (by decide)) (fun _ => ?_)
  refine sv_aload_n (pc := 813) dX12_init_813 rfl rfl ?_
  refine sw_getfield (pc := 814) dX12_init_814 (gCX12 _ _ _ _ _) 83 (by decide) wF_X12_451 rfl rfl rfl ?_
  refine sv_bipush (pc := 817) (v := 6) dX12_init_817 (by decide) ?_
  refine sv_iload_n (pc := 819) dX12_init_819 rfl rfl ?_
  refine sw_imul (pc := 820) (v := 48) dX12_init_820 (by decide) ?_
  refine sv_iload_n (pc := 821) dX12_init_821 rfl rfl ?_
  refine sw_iadd (pc := 822) (v := 52) dX12_init_822 (by decide) ?_
  refine sv_iload_n (pc := 823) dX12_init_823 rfl rfl ?_
  refine sv_iconst (pc := 824) (v := 1) dX12_init_824 (by decide) ?_
  refine sw_iadd (pc := 825) (v := 5) dX12_init_825 (by decide) ?_
  refine sw_iastore (pc := 826) (k := 52) (v := .int 5) dX12_init_826 rfl rfl rfl (by decide) (by decide) rfl rfl ?_
  refine sw_iinc (pc := 827) (v := 5) dX12_init_827 rfl (by decide) (by decide) ?_
  refine sv_goto (pc := 830) (tgt := 808) dX12_init_830 (by decide) ?_
  refine sv_iload_n (pc := 808) dX12_init_808 rfl rfl ?_
  refine sv_iconst (pc := 809) (v := 5) dX12_init_809 (by decide) ?_
  refine sv_icmp_ge (pc := 810) (tgt := 833) dX12_init_810 (by decide) (fun _ => ?_) (fun h => absurd (by decide) h)
  refine sw_iinc (pc := 833) (v := 9) dX12_init_833 rfl (by decide) (by decide) ?_
  refine sv_goto (pc := 836) (tgt := 800) dX12_init_836 (by decide) ?_
  refine sv_iload_n (pc := 800) dX12_init_800 rfl rfl ?_
  refine sv_bipush (pc := 801) (v := 10) dX12_init_801 (by decide) ?_
  refine sv_icmp_ge (pc := 803) (tgt := 839) dX12_init_803 (by decide) (fun h => absurd h (by decide)) (fun _ => ?_)
  refine sv_iconst (pc := 806) (v := 0) dX12_init_806 (by decide) ?_
  refine sv_istore_n (pc := 807) dX12_init_807 rfl (by decide) ?_
  refine sv_iload_n (pc := 808) dX12_init_808 rfl rfl ?_
  refine sv_iconst (pc := 809) (v := 5) dX12_init_809 (by decide) ?_
  refine sv_icmp_ge (pc := 810) (tgt := 833) dX12_init_810 (by decide) (fun h => absurd h (by decide)) (fun _ => ?_)
  refine sv_aload_n (pc := 813) dX12_init_813 rfl rfl ?_
  refine sw_getfield (pc := 814) dX12_init_814 (gCX12 _ _ _ _ _) 83 (by decide) wF_X12_451 rfl rfl rfl ?_
  refine sv_bipush (pc := 817) (v := 6) dX12_init_817 (by decide) ?_
  refine sv_iload_n (pc := 819) dX12_init_819 rfl rfl ?_
  refine sw_imul (pc := 820) (v := 54) dX12_init_820 (by decide) ?_
  refine sv_iload_n (pc := 821) dX12_init_821 rfl rfl ?_
  refine sw_iadd (pc := 822) (v := 54) dX12_init_822 (by decide) ?_
  refine sv_iload_n (pc := 823) dX12_init_823 rfl rfl ?_
  refine sv_iconst (pc := 824) (v := 1) dX12_init_824 (by decide) ?_
  refine sw_iadd (pc := 825) (v := 1) dX12_init_825 (by decide) ?_
  refine sw_iastore (pc := 826) (k := 54) (v := .int 1) dX12_init_826 rfl rfl rfl (by decide) (by decide) rfl rfl ?_
  refine sw_iinc (pc := 827) (v := 1) dX12_init_827 rfl (by decide) (by decide) ?_
  refine sv_goto (pc := 830) (tgt := 808) dX12_init_830 (by decide) ?_
  refine sv_iload_n (pc := 808) dX12_init_808 rfl rfl ?_
  refine sv_iconst (pc := 809) (v := 5) dX12_init_809 (by decide) ?_
  refine sv_icmp_ge (pc := 810) (tgt := 833) dX12_init_810 (by decide) (fun h => absurd h (by decide)) (fun _ => ?_)
  refine sv_aload_n (pc := 813) dX12_init_813 rfl rfl ?_
  refine sw_getfield (pc := 814) dX12_init_814 (gCX12 _ _ _ _ _) 83 (by decide) wF_X12_451 rfl rfl rfl ?_
  refine sv_bipush (pc := 817) (v := 6) dX12_init_817 (by decide) ?_
  refine sv_iload_n (pc := 819) dX12_init_819 rfl rfl ?_
  refine sw_imul (pc := 820) (v := 54) dX12_init_820 (by decide) ?_
  refine sv_iload_n (pc := 821) dX12_init_821 rfl rfl ?_
  refine sw_iadd (pc := 822) (v := 55) dX12_init_822 (by decide) ?_
  refine sv_iload_n (pc := 823) dX12_init_823 rfl rfl ?_
  refine sv_iconst (pc := 824) (v := 1) dX12_init_824 (by decide) ?_
  refine sw_iadd (pc := 825) (v := 2) dX12_init_825 (by decide) ?_
  refine sw_iastore (pc := 826) (k := 55) (v := .int 2) dX12_init_826 rfl rfl rfl (by decide) (by decide) rfl rfl ?_
  refine sw_iinc (pc := 827) (v := 2) dX12_init_827 rfl (by decide) (by decide) ?_
  refine sv_goto (pc := 830) (tgt := 808) dX12_init_830 (by decide) ?_
  refine sv_iload_n (pc := 808) dX12_init_808 rfl rfl ?_
  refine sv_iconst (pc := 809) (v := 5) dX12_init_809 (by decide) ?_
  refine sv_icmp_ge (pc := 810) (tgt := 833) dX12_init_810 (by decide) (fun h => absurd h (by decide)) (fun _ => ?_)
  refine sv_aload_n (pc := 813) dX12_init_813 rfl rfl ?_
  refine sw_getfield (pc := 814) dX12_init_814 (gCX12 _ _ _ _ _) 83 (by decide) wF_X12_451 rfl rfl rfl ?_
  refine sv_bipush (pc := 817) (v := 6) dX12_init_817 (by decide) ?_
  refine sv_iload_n (pc := 819) dX12_init_819 rfl rfl ?_
  refine sw_imul (pc := 820) (v := 54) dX12_init_820 (by decide) ?_
  refine sv_iload_n (pc := 821) dX12_init_821 rfl rfl ?_
  refine sw_iadd (pc := 822) (v := 56) dX12_init_822 (by decide) ?_
  refine sv_iload_n (pc := 823) dX12_init_823 rfl rfl ?_
  refine sv_iconst (pc := 824) (v := 1) dX12_init_824 (by decide) ?_
  refine sw_iadd (pc := 825) (v := 3) dX12_init_825 (by decide) ?_
  refine sw_iastore (pc := 826) (k := 56) (v := .int 3) dX12_init_826 rfl rfl rfl (by decide) (by decide) rfl rfl ?_
  refine sw_iinc (pc := 827) (v := 3) dX12_init_827 rfl (by decide) (by decide) ?_
  refine sv_goto (pc := 830) (tgt := 808) dX12_init_830 (by decide) ?_
  refine sv_iload_n (pc := 808) dX12_init_808 rfl rfl ?_
  refine sv_iconst (pc := 809) (v := 5) dX12_init_809 (by decide) ?_
  refine sv_icmp_ge (pc := 810) (tgt := 833) dX12_init_810 (by decide) (fun h => absurd h (by decide)) (fun _ => ?_)
  refine sv_aload_n (pc := 813) dX12_init_813 rfl rfl ?_
  refine sw_getfield (pc := 814) dX12_init_814 (gCX12 _ _ _ _ _) 83 (by decide) wF_X12_451 rfl rfl rfl ?_
  refine sv_bipush (pc := 817) (v := 6) dX12_init_817 (by decide) ?_
  refine sv_iload_n (pc := 819) dX12_init_819 rfl rfl ?_
  refine sw_imul (pc := 820) (v := 54) dX12_init_820 (by decide) ?_
  refine sv_iload_n (pc := 821) dX12_init_821 rfl rfl ?_
  refine sw_iadd (pc := 822) (v := 57) dX12_init_822 (by decide) ?_
  refine sv_iload_n (pc := 823) dX12_init_823 rfl rfl ?_
  refine sv_iconst (pc := 824) (v := 1) dX12_init_824 (by decide) ?_
  refine sw_iadd (pc := 825) (v := 4) dX12_init_825 (by decide) ?_
  refine sw_iastore (pc := 826) (k := 57) (v := .int 4) dX12_init_826 rfl rfl rfl (by decide) (by decide) rfl rfl ?_
  refine sw_iinc (pc := 827) (v := 4) dX12_init_827 rfl (by decide) (by decide) ?_
  refine sv_goto (pc := 830) (tgt := 808) dX12_init_830 (by decide) ?_
  refine sv_iload_n (pc := 808) dX12_init_808 rfl rfl ?_
  refine sv_iconst (pc := 809) (v := 5) dX12_init_809 (by decide) ?_
  refine sv_icmp_ge (pc := 810) (tgt := 833) dX12_init_810 (by decide) (fun h => absurd h (by decide)) (fun _ => ?_)
  refine sv_aload_n (pc := 813) dX12_init_813 rfl rfl ?_
  refine sw_getfield (pc := 814) dX12_init_814 (gCX12 _ _ _ _ _) 83 (by decide) wF_X12_451 rfl rfl rfl ?_
  refine sv_bipush (pc := 817) (v := 6) dX12_init_817 (by decide) ?_
  refine sv_iload_n (pc := 819) dX12_init_819 rfl rfl ?_
  refine sw_imul (pc := 820) (v := 54) dX12_init_820 (by decide) ?_
  refine sv_iload_n (pc := 821) dX12_init_821 rfl rfl ?_
  refine sw_iadd (pc := 822) (v := 58) dX12_init_822 (by decide) ?_
  refine sv_iload_n (pc := 823) dX12_init_823 rfl rfl ?_
  refine sv_iconst (pc := 824) (v := 1) dX12_init_824 (by decide) ?_
  refine sw_iadd (pc := 825) (v := 5) dX12_init_825 (by decide) ?_
  refine sw_iastore (pc := 826) (k := 58) (v := .int 5) dX12_init_826 rfl rfl rfl (by decide) (by decide) rfl rfl ?_
  refine sw_iinc (pc := 827) (v := 5) dX12_init_827 rfl (by decide) (by decide) ?_
  refine sv_goto (pc := 830) (tgt := 808) dX12_init_830 (by decide) ?_
  refine sv_iload_n (pc := 808) dX12_init_808 rfl rfl ?_
  refine sv_iconst (pc := 809) (v := 5) dX12_init_809 (by decide) ?_
  refine sv_icmp_ge (pc := 810) (tgt := 833) dX12_init_810 (by decide) (fun _ => ?_) (fun h => absurd (by decide) h)
  refine sw_iinc (pc := 833) (v := 10) dX12_init_833 rfl (by decide) (by decide) ?_
  refine sv_goto (pc := 836) (tgt := 800) dX12_init_836 (by decide) ?_
  refine sv_iload_n (pc := 800) dX12_init_800 rfl rfl ?_
  refine sv_bipush (pc := 801) (v := 10) dX12_init_801 (by decide) ?_
  refine sv_icmp_ge (pc := 803) (tgt := 839) dX12_init_803 (by decide) (fun _ => ?_) (fun h => absurd (by decide) h)
  refine sv_aload_n (pc := 839) dX12_init_839 rfl rfl ?_
  refine sv_iconst (pc := 840) (v := 0) dX12_init_840 (by decide) ?_
  refine sv_callV (pc := 841) (M' := mX12_nothing) (d' := 19) (C' := 0) (S' := 0) (av := [.int 0]) ?_ (gOk _ _ _ _ _) dX12_init_841 (tX12_nothing _ _ _ _ _) ⟨wV_X12_nothing, wL_X12_nothing⟩ wM_X12_539 (gCX12 _ _ _ _ _) rfl (lt_t rfl) rfl ⟨le_t rfl, le_t rfl⟩ ⟨le_t rfl, le_t rfl⟩ rfl (le_t rfl) (fun _ _ h => h)
  refine sC.of rfl (by decide) (le_t rfl) ?_
  refine sv_aload_n (pc := 0) dX12_nothing_0 rfl rfl ?_
  refine sw_getfield (pc := 1) dX12_nothing_1 (gCX12 _ _ _ _ _) 32 (by decide) wF_X12_148 rfl rfl rfl ?_
  refine sv_bipush (pc := 4) (v := 40) dX12_nothing_4 (by decide) ?_
  refine sv_iload_n (pc := 6) dX12_nothing_6 rfl rfl ?_
  refine sw_imul (pc := 7) (v := 0) dX12_nothing_7 (by decide) ?_
  refine sv_iconst (pc := 8) (v := (-1)) dX12_nothing_8 (by decide) ?_
  refine sw_iastore (pc := 9) (k := 0) (v := .int (-1)) dX12_nothing_9 rfl rfl rfl (by decide) (by decide) rfl rfl ?_
  refine sv_vret (pc := 10) dX12_nothing_10 rfl (le_t rfl) (le_t rfl) ?_
  refine sv_vret dX12_init_844 rfl (le_t rfl) (le_t rfl) ⟨rfl, rfl, fun j hj => ?_⟩
  match j, hj with
  | 0, _ => exact rfl
  | 1, _ => exact rfl
  | 2, _ => exact rfl
  | 3, _ => exact rfl
  | 4, _ => exact rfl
  | 5, _ => exact rfl
  | 6, _ => exact rfl
  | 7, _ => exact rfl
  | 8, _ => exact rfl
  | 9, _ => exact rfl
  | 10, _ => exact rfl
  | 11, _ => exact rfl
  | 12, _ => exact rfl
  | 13, _ => exact rfl
  | 14, _ => exact rfl
  | 15, _ => exact rfl
  | 16, _ => exact rfl
  | 17, _ => exact rfl
  | 18, _ => exact rfl
  | 19, _ => exact rfl
  | 20, _ => exact rfl
  | 21, _ => exact rfl
  | 22, _ => exact rfl
  | 23, _ => exact rfl
  | 24, _ => exact rfl
  | 25, _ => exact rfl
  | 26, _ => exact rfl
  | 27, _ => exact rfl
  | 28, _ => exact rfl
  | 29, _ => exact rfl
  | 30, _ => exact rfl
  | 31, _ => exact rfl
  | 32, _ => exact rfl
  | 33, _ => exact rfl
  | 34, _ => exact rfl
  | 35, _ => exact rfl
  | 36, _ => exact rfl
  | 37, _ => exact rfl
  | 38, _ => exact rfl
  | 39, _ => exact rfl
  | 40, _ => exact rfl
  | 41, _ => exact rfl
  | 42, _ => exact rfl
  | 43, _ => exact rfl
  | 44, _ => exact rfl
  | 45, _ => exact rfl
  | 46, _ => exact rfl
  | 47, _ => exact rfl
  | 48, _ => exact rfl
  | 49, _ => exact rfl
  | 50, _ => exact rfl
  | 51, _ => exact rfl
  | 52, _ => exact rfl
  | 53, _ => exact rfl
  | 54, _ => exact rfl
  | 55, _ => exact rfl
  | 56, _ => exact rfl
  | 57, _ => exact rfl
  | 58, _ => exact rfl
  | 59, _ => exact rfl
  | 60, _ => exact rfl
  | 61, _ => exact rfl
  | 62, _ => exact rfl
  | 63, _ => exact rfl
  | 64, _ => exact rfl
  | 65, _ => exact rfl
  | 66, _ => exact rfl
  | 67, _ => exact rfl
  | 68, _ => exact rfl
  | 69, _ => exact rfl
  | 70, _ => exact rfl
  | 71, _ => exact rfl
  | 72, _ => exact rfl
  | 73, _ => exact rfl
  | 74, _ => exact rfl
  | 75, _ => exact rfl
  | 76, _ => exact rfl
  | 77, _ => exact rfl
  | 78, _ => exact rfl
  | 79, _ => exact rfl
  | 80, _ => exact rfl
  | 81, _ => exact rfl
  | 82, _ => exact rfl
  | 83, _ => exact rfl
  | 84, _ => exact rfl
  | 85, _ => exact rfl
  | 86, _ => exact rfl
  | 87, _ => exact rfl
  | 88, _ => exact rfl
  | 89, _ => exact rfl
  | 90, _ => exact rfl
  | 91, _ => exact rfl
  | 92, _ => exact rfl
  | 93, _ => exact rfl
  | 94, _ => exact rfl
  | 95, _ => exact rfl
  | 96, _ => exact rfl
  | 97, _ => exact rfl
  | 98, _ => exact rfl
  | 99, _ => exact rfl
  | 100, _ => exact rfl
  | 101, _ => exact rfl
  | 102, _ => exact rfl
  | 103, _ => exact rfl
  | 104, _ => exact rfl
  | 105, _ => exact rfl
  | 106, _ => exact rfl
  | 107, _ => exact rfl
  | 108, _ => exact rfl
  | 109, _ => exact rfl
  | 110, _ => exact rfl
  | 111, _ => exact rfl
  | 112, _ => exact rfl
  | 113, _ => exact rfl
  | 114, _ => exact rfl
  | 115, _ => exact rfl
  | 116, _ => exact rfl
  | 117, _ => exact rfl
  | 118, _ => exact rfl
  | 119, _ => exact rfl
  | 120, _ => exact rfl
  | 121, _ => exact rfl
  | 122, _ => exact rfl
  | 123, _ => exact rfl
  | 124, _ => exact rfl
  | 125, _ => exact rfl
  | 126, _ => exact rfl
  | 127, _ => exact rfl
  | 128, _ => exact rfl
  | 129, _ => exact rfl
  | 130, _ => exact rfl
  | 131, _ => exact rfl
  | 132, _ => exact rfl
  | 133, _ => exact rfl
  | 134, _ => exact rfl
  | 135, _ => exact rfl
  | 136, _ => exact rfl
  | 137, _ => exact rfl
  | 138, _ => exact rfl
  | 139, _ => exact rfl
  | 140, _ => exact rfl
  | 141, _ => exact rfl
  | 142, _ => exact rfl
  | 143, _ => exact rfl
  | 144, _ => exact rfl
  | 145, _ => exact rfl
  | 146, _ => exact rfl
  | 147, _ => exact rfl
  | 148, _ => exact rfl
  | 149, _ => exact rfl
  | 150, _ => exact rfl
  | 151, _ => exact rfl
  | 152, _ => exact rfl
  | 153, _ => exact rfl
  | 154, _ => exact rfl
  | 155, _ => exact rfl
  | 156, _ => exact rfl
  | 157, _ => exact rfl
  | 158, _ => exact rfl
  | 159, _ => exact rfl
  | 160, _ => exact rfl
  | 161, _ => exact rfl
  | 162, _ => exact rfl
  | 163, _ => exact rfl
  | 164, _ => exact rfl
  | 165, _ => exact rfl
  | 166, _ => exact rfl
  | 167, _ => exact rfl
  | 168, _ => exact rfl
  | 169, _ => exact rfl
  | 170, _ => exact rfl
  | 171, _ => exact rfl
  | 172, _ => exact rfl
  | 173, _ => exact rfl
  | 174, _ => exact rfl
  | 175, _ => exact rfl
  | 176, _ => exact rfl
  | 177, _ => exact rfl
  | 178, _ => exact rfl
  | 179, _ => exact rfl
  | 180, _ => exact rfl
  | 181, _ => exact rfl
  | 182, _ => exact rfl
  | 183, _ => exact rfl
  | 184, _ => exact rfl
  | 185, _ => exact rfl
  | 186, _ => exact rfl
  | 187, _ => exact rfl
  | 188, _ => exact rfl
  | 189, _ => exact rfl
  | 190, _ => exact rfl
  | 191, _ => exact rfl
  | n + 192, h => exact absurd h (by omega)
end
section
theorem dJ_min_0 : decode cJ_min 0 = .ok (.iload_n 0, 1) := by decide +kernel
theorem dJ_min_1 : decode cJ_min 1 = .ok (.iload_n 1, 1) := by decide +kernel
theorem dJ_min_2 : decode cJ_min 2 = .ok (.if_icmp .gt 7, 3) := by decide +kernel
theorem dJ_min_5 : decode cJ_min 5 = .ok (.iload_n 0, 1) := by decide +kernel
theorem dJ_min_6 : decode cJ_min 6 = .ok (.goto 4, 3) := by decide +kernel
theorem dJ_min_9 : decode cJ_min 9 = .ok (.iload_n 1, 1) := by decide +kernel
theorem dJ_min_10 : decode cJ_min 10 = .ok (.ireturn, 1) := by decide +kernel
theorem dJ_max_0 : decode cJ_max 0 = .ok (.iload_n 0, 1) := by decide +kernel
theorem dJ_max_1 : decode cJ_max 1 = .ok (.iload_n 1, 1) := by decide +kernel
theorem dJ_max_2 : decode cJ_max 2 = .ok (.if_icmp .lt 7, 3) := by decide +kernel
theorem dJ_max_5 : decode cJ_max 5 = .ok (.iload_n 0, 1) := by decide +kernel
theorem dJ_max_6 : decode cJ_max 6 = .ok (.goto 4, 3) := by decide +kernel
theorem dJ_max_9 : decode cJ_max 9 = .ok (.iload_n 1, 1) := by decide +kernel
theorem dJ_max_10 : decode cJ_max 10 = .ok (.ireturn, 1) := by decide +kernel
theorem dJ_cmp_0 : decode cJ_cmp 0 = .ok (.iload_n 0, 1) := by decide +kernel
theorem dJ_cmp_1 : decode cJ_cmp 1 = .ok (.iload_n 1, 1) := by decide +kernel
theorem dJ_cmp_2 : decode cJ_cmp 2 = .ok (.if_icmp .ge 7, 3) := by decide +kernel
theorem dJ_cmp_5 : decode cJ_cmp 5 = .ok (.iconst (-1), 1) := by decide +kernel
theorem dJ_cmp_6 : decode cJ_cmp 6 = .ok (.goto 13, 3) := by decide +kernel
theorem dJ_cmp_9 : decode cJ_cmp 9 = .ok (.iload_n 0, 1) := by decide +kernel
theorem dJ_cmp_10 : decode cJ_cmp 10 = .ok (.iload_n 1, 1) := by decide +kernel
theorem dJ_cmp_11 : decode cJ_cmp 11 = .ok (.if_icmp .ne 7, 3) := by decide +kernel
theorem dJ_cmp_14 : decode cJ_cmp 14 = .ok (.iconst 0, 1) := by decide +kernel
theorem dJ_cmp_15 : decode cJ_cmp 15 = .ok (.goto 4, 3) := by decide +kernel
theorem dJ_cmp_18 : decode cJ_cmp 18 = .ok (.iconst 1, 1) := by decide +kernel
theorem dJ_cmp_19 : decode cJ_cmp 19 = .ok (.ireturn, 1) := by decide +kernel
theorem dJ_copyI_0 : decode cJ_copyI 0 = .ok (.iload_n 1, 1) := by decide +kernel
theorem dJ_copyI_1 : decode cJ_copyI 1 = .ok (.aload_n 0, 1) := by decide +kernel
theorem dJ_copyI_2 : decode cJ_copyI 2 = .ok (.arraylength, 1) := by decide +kernel
theorem dJ_copyI_3 : decode cJ_copyI 3 = .ok (.if_icmp .ne 11, 3) := by decide +kernel
theorem dJ_copyI_14 : decode cJ_copyI 14 = .ok (.iload_n 1, 1) := by decide +kernel
theorem dJ_copyI_15 : decode cJ_copyI 15 = .ok (.newarray .int, 2) := by decide +kernel
theorem dJ_copyI_17 : decode cJ_copyI 17 = .ok (.astore_n 2, 1) := by decide +kernel
theorem dJ_copyI_18 : decode cJ_copyI 18 = .ok (.aload_n 0, 1) := by decide +kernel
theorem dJ_copyI_19 : decode cJ_copyI 19 = .ok (.iconst 0, 1) := by decide +kernel
theorem dJ_copyI_20 : decode cJ_copyI 20 = .ok (.aload_n 2, 1) := by decide +kernel
theorem dJ_copyI_21 : decode cJ_copyI 21 = .ok (.iconst 0, 1) := by decide +kernel
theorem dJ_copyI_22 : decode cJ_copyI 22 = .ok (.aload_n 0, 1) := by decide +kernel
theorem dJ_copyI_23 : decode cJ_copyI 23 = .ok (.arraylength, 1) := by decide +kernel
theorem dJ_copyI_24 : decode cJ_copyI 24 = .ok (.iload_n 1, 1) := by decide +kernel
theorem dJ_copyI_25 : decode cJ_copyI 25 = .ok (.invokestatic 304, 3) := by decide +kernel
theorem dJ_copyI_28 : decode cJ_copyI 28 = .ok (.invokestatic 150, 3) := by decide +kernel
theorem dJ_copyI_31 : decode cJ_copyI 31 = .ok (.aload_n 2, 1) := by decide +kernel
theorem dJ_copyI_32 : decode cJ_copyI 32 = .ok (.areturn, 1) := by decide +kernel
theorem dJ_copyJ_0 : decode cJ_copyJ 0 = .ok (.iload_n 1, 1) := by decide +kernel
theorem dJ_copyJ_1 : decode cJ_copyJ 1 = .ok (.aload_n 0, 1) := by decide +kernel
theorem dJ_copyJ_2 : decode cJ_copyJ 2 = .ok (.arraylength, 1) := by decide +kernel
theorem dJ_copyJ_3 : decode cJ_copyJ 3 = .ok (.if_icmp .ne 11, 3) := by decide +kernel
theorem dJ_copyJ_14 : decode cJ_copyJ 14 = .ok (.iload_n 1, 1) := by decide +kernel
theorem dJ_copyJ_15 : decode cJ_copyJ 15 = .ok (.newarray .long, 2) := by decide +kernel
theorem dJ_copyJ_17 : decode cJ_copyJ 17 = .ok (.astore_n 2, 1) := by decide +kernel
theorem dJ_copyJ_18 : decode cJ_copyJ 18 = .ok (.aload_n 0, 1) := by decide +kernel
theorem dJ_copyJ_19 : decode cJ_copyJ 19 = .ok (.iconst 0, 1) := by decide +kernel
theorem dJ_copyJ_20 : decode cJ_copyJ 20 = .ok (.aload_n 2, 1) := by decide +kernel
theorem dJ_copyJ_21 : decode cJ_copyJ 21 = .ok (.iconst 0, 1) := by decide +kernel
theorem dJ_copyJ_22 : decode cJ_copyJ 22 = .ok (.aload_n 0, 1) := by decide +kernel
theorem dJ_copyJ_23 : decode cJ_copyJ 23 = .ok (.arraylength, 1) := by decide +kernel
theorem dJ_copyJ_24 : decode cJ_copyJ 24 = .ok (.iload_n 1, 1) := by decide +kernel
theorem dJ_copyJ_25 : decode cJ_copyJ 25 = .ok (.invokestatic 304, 3) := by decide +kernel
theorem dJ_copyJ_28 : decode cJ_copyJ 28 = .ok (.invokestatic 150, 3) := by decide +kernel
theorem dJ_copyJ_31 : decode cJ_copyJ 31 = .ok (.aload_n 2, 1) := by decide +kernel
theorem dJ_copyJ_32 : decode cJ_copyJ 32 = .ok (.areturn, 1) := by decide +kernel
theorem wM_J_304 : Cond.methodLink "java/util/Arrays" 304 yJ_min ∈ lw_ok := lw_i5 203 rfl rfl
theorem wM_J_150 : Cond.methodLink "java/util/Arrays" 150 arraycopyName ∈ lw_ok := lw_i5 204 rfl rfl
theorem wS_J_ac : Cond.static arraycopyName ∈ lw_ok := lw_i4 27 rfl rfl
theorem wN_J_ac : Cond.native arraycopyName ∈ lw_ok := lw_i4 28 rfl rfl
theorem wI_J_math : Cond.initialized "java/lang/Math" ∈ lw_ok := lw_i1 16 rfl rfl
theorem wI_J_sys : Cond.initialized "java/lang/System" ∈ lw_ok := lw_i1 14 rfl rfl
section CPYI
variable {g : sG} {M : sM} {R : Room} {Z : sZT} {pc : Nat} {lv : List (Nat × Value)} {st : List Value} {ce sl hn : Nat} {hf : Nat → sE}
theorem sv_copyI {index a0 a n0 n1 : Nat} {cA : ClassId} {q q' : Nat → Int32} {sp dp n : Int32} (hd : decode M.2.1 pc = .ok (.invokestatic index, 3)) (hlk : Cond.methodLink M.1.cls index arraycopyName ∈ sg_ws g) (hw1 : Cond.native arraycopyName ∈ sg_ws g) (hw2 : Cond.static arraycopyName ∈ sg_ws g) (hw3 : Cond.initialized "java/lang/System" ∈ sg_ws g) (ht : g.2.2.1[0]? = some (cA, .int)) (ha0 : a0 < hn) (ha : a < hn) (he0 : hf a0 = .inl (0, n0, sI q)) (he : hf a = .inl (0, n1, sI q')) (h1 : ¬ sp < 0) (h2 : ¬ dp < 0) (h3 : ¬ n < 0) (h4 : sp.toNatClampNeg + n.toNatClampNeg ≤ n0) (h5 : dp.toNatClampNeg + n.toNatClampNeg ≤ n1) (hfr : 1 ≤ R.frames) (hlo : nativeFrameWords "java/lang/System" "arraycopy" 5 + 19 ≤ R.locals) (hr8 : (st.map fun v => v.category).sum ≤ 8)
    (kk : sV g M R Z (pc + 3) lv st (hn, sUp hf a (.inl (0, n1, sI (va_cpy q q' sp.toNatClampNeg dp.toNatClampNeg n.toNatClampNeg)))) ce sl) : sV g M R Z pc lv (.int n :: .int dp :: .ref a :: .int sp :: .ref a0 :: st) (hn, hf) ce sl := by
  intro p e s m args below meth c H locs ls X r hl h
  obtain ⟨hx, hb, hr, hml, hown, hts, hK, hlk2, hlw, hnm⟩ := id X
  obtain ⟨hc0, -⟩ := sArr (hp := (hn, hf)) r hK ha0 he0 ht
  obtain ⟨hc1, -⟩ := sArr (hp := (hn, hf)) r hK ha he ht
  have nn : ∀ z : Int32, ¬ z < 0 → z.toInt = (z.toNatClampNeg : Int) := by
    intro z hz
    have hz0 : (0 : Int) ≤ z.toInt := by
      have := Int32.not_lt.mp hz
      simpa using Int32.le_iff_toInt_le.mp this
    show z.toInt = ((z.toInt.toNat : Nat) : Int)
    omega
  intro T hT X1
  obtain ⟨-, k0, hk0, cm0, hkk0⟩ := (hK.1.2 0 _ ht).1 n0 (fun j => .int (q j))
  have h8 := lv_room (m := m) (pc := pc) (ls := ls) (rest := (Value.int n :: .int dp :: .ref a :: .int sp :: .ref a0 :: st).map (rv (sg_r g))) (sRoom (b := sg_r g) hr8)
  obtain ⟨vm', X', step⟩ := X1.arraycopy hx hown (hts _ hlk) (hts _ hw1) (hts _ hw2) (hts _ hw3) (src := sg_b g + a0) (dst := sg_b g + a) (cs := arrV cA n0 (fun j => .int (q j))) (cd := arrV cA n1 (fun j => .int (q' j))) (srcPos := sp) (destPos := dp) (n := n) (by rw [hT]; exact hc0) (by rw [hT]; exact hc1)
    (fun _ h => by cases h) (fun _ h => by cases h) (fun h => by cases h) (fun h => by cases h) hk0 hk0 hkk0 hkk0 rfl h1 h2 h3
    (by rw [nn sp h1, nn n h3, arrV_size]; omega)
    (by rw [nn dp h2, nn n h3, arrV_size]; omega)
    (fun vm₁ _ i hi => by
      have e : (arrV cA n0 (fun j => .int (q j))).slots.getD (sp.toNatClampNeg + i) .null = .int (q (sp.toNatClampNeg + i)) := by
        rw [Array.getD_eq_getD_getElem?, arrV_read _ _ (by omega)]
        rfl
      refine ⟨?_, ?_⟩
      · rw [e]; rfl
      · rw [e]; exact trivial)
    (g := F0 m pc ls ((Value.int n :: .int dp :: .ref a :: .int sp :: .ref a0 :: st).map (rv (sg_r g)))) rfl (by rw [hml]; exact h.1) (rest := st.map (rv (sg_r g))) rfl (by rw [hb]; exact hd) hfr (by omega)
  have e1 : copied (arrV cA n0 (fun j => .int (q j))) (arrV cA n1 (fun j => .int (q' j))) sp dp n = arrV cA n1 (fun j => .int (va_cpy q q' sp.toNatClampNeg dp.toNatClampNeg n.toNatClampNeg j)) := va_copied (fun z => .int z) cA cA q q' h4
  rw [e1] at X' step
  have hlt : sg_b g + a < H.size := (Array.getElem?_eq_some_iff.mp hc1).1
  have hheap : ((T.setVm vm').setCell (sg_b g + a) (arrV cA n1 (fun j => .int (va_cpy q q' sp.toNatClampNeg dp.toNatClampNeg n.toNatClampNeg j)))).heap = H.setIfInBounds (sg_b g + a) (arrV cA n1 (fun j => .int (va_cpy q q' sp.toNatClampNeg dp.toNatClampNeg n.toNatClampNeg j))) := by rw [← hT]; rfl
  have hR : sR g (hn, sUp hf a (.inl (0, n1, sI (va_cpy q q' sp.toNatClampNeg dp.toNatClampNeg n.toNatClampNeg)))) (H.setIfInBounds (sg_b g + a) (arrV cA n1 (fun j => .int (va_cpy q q' sp.toNatClampNeg dp.toNatClampNeg n.toNatClampNeg j)))) :=
    sR.put (hp := (hn, hf)) r (by simp) (fun z hz => by simp [Array.getElem?_setIfInBounds, Ne.symm hz]) ⟨cA, .int, ht, by simp [Array.getElem?_setIfInBounds, hlt]; rfl⟩
  obtain ⟨t, a1, b1⟩ := kk p e s m args below meth c _ _ ls X hR (fun z hz => by
    rcases List.mem_append.mp hz with hz | hz
    · exact hl z hz
    · obtain ⟨y, -, hy⟩ := List.mem_map.mp hz
      rw [← hy]; exact Nat.le_add_right _ _) h _ hheap X'
  exact ⟨t, step t a1, b1⟩
end CPYI
section CPYJ
variable {g : sG} {M : sM} {R : Room} {Z : sZT} {pc : Nat} {lv : List (Nat × Value)} {st : List Value} {ce sl hn : Nat} {hf : Nat → sE}
theorem sv_copyJ {index a0 a n0 n1 : Nat} {cA : ClassId} {q q' : Nat → Int64} {sp dp n : Int32} (hd : decode M.2.1 pc = .ok (.invokestatic index, 3)) (hlk : Cond.methodLink M.1.cls index arraycopyName ∈ sg_ws g) (hw1 : Cond.native arraycopyName ∈ sg_ws g) (hw2 : Cond.static arraycopyName ∈ sg_ws g) (hw3 : Cond.initialized "java/lang/System" ∈ sg_ws g) (ht : g.2.2.1[1]? = some (cA, .long)) (ha0 : a0 < hn) (ha : a < hn) (he0 : hf a0 = .inl (1, n0, sJ q)) (he : hf a = .inl (1, n1, sJ q')) (h1 : ¬ sp < 0) (h2 : ¬ dp < 0) (h3 : ¬ n < 0) (h4 : sp.toNatClampNeg + n.toNatClampNeg ≤ n0) (h5 : dp.toNatClampNeg + n.toNatClampNeg ≤ n1) (hfr : 1 ≤ R.frames) (hlo : nativeFrameWords "java/lang/System" "arraycopy" 5 + 19 ≤ R.locals) (hr8 : (st.map fun v => v.category).sum ≤ 8)
    (kk : sV g M R Z (pc + 3) lv st (hn, sUp hf a (.inl (1, n1, sJ (va_cpy q q' sp.toNatClampNeg dp.toNatClampNeg n.toNatClampNeg)))) ce sl) : sV g M R Z pc lv (.int n :: .int dp :: .ref a :: .int sp :: .ref a0 :: st) (hn, hf) ce sl := by
  intro p e s m args below meth c H locs ls X r hl h
  obtain ⟨hx, hb, hr, hml, hown, hts, hK, hlk2, hlw, hnm⟩ := id X
  obtain ⟨hc0, -⟩ := sArr (hp := (hn, hf)) r hK ha0 he0 ht
  obtain ⟨hc1, -⟩ := sArr (hp := (hn, hf)) r hK ha he ht
  have nn : ∀ z : Int32, ¬ z < 0 → z.toInt = (z.toNatClampNeg : Int) := by
    intro z hz
    have hz0 : (0 : Int) ≤ z.toInt := by
      have := Int32.not_lt.mp hz
      simpa using Int32.le_iff_toInt_le.mp this
    show z.toInt = ((z.toInt.toNat : Nat) : Int)
    omega
  intro T hT X1
  obtain ⟨-, k0, hk0, cm0, hkk0⟩ := (hK.1.2 1 _ ht).1 n0 (fun j => .long (q j))
  have h8 := lv_room (m := m) (pc := pc) (ls := ls) (rest := (Value.int n :: .int dp :: .ref a :: .int sp :: .ref a0 :: st).map (rv (sg_r g))) (sRoom (b := sg_r g) hr8)
  obtain ⟨vm', X', step⟩ := X1.arraycopy hx hown (hts _ hlk) (hts _ hw1) (hts _ hw2) (hts _ hw3) (src := sg_b g + a0) (dst := sg_b g + a) (cs := arrV cA n0 (fun j => .long (q j))) (cd := arrV cA n1 (fun j => .long (q' j))) (srcPos := sp) (destPos := dp) (n := n) (by rw [hT]; exact hc0) (by rw [hT]; exact hc1)
    (fun _ h => by cases h) (fun _ h => by cases h) (fun h => by cases h) (fun h => by cases h) hk0 hk0 hkk0 hkk0 rfl h1 h2 h3
    (by rw [nn sp h1, nn n h3, arrV_size]; omega)
    (by rw [nn dp h2, nn n h3, arrV_size]; omega)
    (fun vm₁ _ i hi => by
      have e : (arrV cA n0 (fun j => .long (q j))).slots.getD (sp.toNatClampNeg + i) .null = .long (q (sp.toNatClampNeg + i)) := by
        rw [Array.getD_eq_getD_getElem?, arrV_read _ _ (by omega)]
        rfl
      refine ⟨?_, ?_⟩
      · rw [e]; rfl
      · rw [e]; exact trivial)
    (g := F0 m pc ls ((Value.int n :: .int dp :: .ref a :: .int sp :: .ref a0 :: st).map (rv (sg_r g)))) rfl (by rw [hml]; exact h.1) (rest := st.map (rv (sg_r g))) rfl (by rw [hb]; exact hd) hfr (by omega)
  have e1 : copied (arrV cA n0 (fun j => .long (q j))) (arrV cA n1 (fun j => .long (q' j))) sp dp n = arrV cA n1 (fun j => .long (va_cpy q q' sp.toNatClampNeg dp.toNatClampNeg n.toNatClampNeg j)) := va_copied (fun z => .long z) cA cA q q' h4
  rw [e1] at X' step
  have hlt : sg_b g + a < H.size := (Array.getElem?_eq_some_iff.mp hc1).1
  have hheap : ((T.setVm vm').setCell (sg_b g + a) (arrV cA n1 (fun j => .long (va_cpy q q' sp.toNatClampNeg dp.toNatClampNeg n.toNatClampNeg j)))).heap = H.setIfInBounds (sg_b g + a) (arrV cA n1 (fun j => .long (va_cpy q q' sp.toNatClampNeg dp.toNatClampNeg n.toNatClampNeg j))) := by rw [← hT]; rfl
  have hR : sR g (hn, sUp hf a (.inl (1, n1, sJ (va_cpy q q' sp.toNatClampNeg dp.toNatClampNeg n.toNatClampNeg)))) (H.setIfInBounds (sg_b g + a) (arrV cA n1 (fun j => .long (va_cpy q q' sp.toNatClampNeg dp.toNatClampNeg n.toNatClampNeg j)))) :=
    sR.put (hp := (hn, hf)) r (by simp) (fun z hz => by simp [Array.getElem?_setIfInBounds, Ne.symm hz]) ⟨cA, .long, ht, by simp [Array.getElem?_setIfInBounds, hlt]; rfl⟩
  obtain ⟨t, a1, b1⟩ := kk p e s m args below meth c _ _ ls X hR (fun z hz => by
    rcases List.mem_append.mp hz with hz | hz
    · exact hl z hz
    · obtain ⟨y, -, hy⟩ := List.mem_map.mp hz
      rw [← hy]; exact Nat.le_add_right _ _) h _ hheap X'
  exact ⟨t, step t a1, b1⟩
end CPYJ
section MMX
variable {g : sG} {M : sM} {R : Room} {Z : sZT} {pc : Nat} {lv : List (Nat × Value)} {st : List Value} {hp : sHp} {ce sl : Nat}
theorem sv_min {index : Nat} {x y v : Int32} (hd : decode M.2.1 pc = .ok (.invokestatic index, 3)) (hlk : Cond.methodLink M.1.cls index yJ_min ∈ sg_ws g) (hs : Cond.static yJ_min ∈ sg_ws g) (hi : Cond.initialized "java/lang/Math" ∈ sg_ws g) (hk : Cond.code yJ_min cJ_min 2 (some .int) ∈ sg_ws g) (hR : 1 ≤ R.frames ∧ 21 ≤ R.locals) (hc : ce ≤ R.cells ∧ sl ≤ R.slots) (hr8 : (st.map fun v => v.category).sum ≤ 8) (hv : (if y < x then y else x) = v) (kk : sV g M R Z (pc + 3) lv (.int v :: st) hp ce sl) : sV g M R Z pc lv (.int y :: .int x :: st) hp ce sl := by
  subst hv
  intro p e s m args below meth c H locs ls X r hl h
  obtain ⟨hx, hb, hr, hml, hown, hts, hK, hlk2, hlw, hnm⟩ := id X
  have h8 := sRoom (b := sg_r g) hr8
  have := hR.2
  exact va_mmin hx hb (by rw [hml]; exact h.1.symm) hown (hts _ hlk) (hts _ hs) (hts _ hi) (hts _ hk) hR.1 (by omega) hc.1 hc.2 hd (kk p e s m args below meth c H locs ls X r hl h)
theorem sv_max {index : Nat} {x y v : Int32} (hd : decode M.2.1 pc = .ok (.invokestatic index, 3)) (hlk : Cond.methodLink M.1.cls index yJ_max ∈ sg_ws g) (hs : Cond.static yJ_max ∈ sg_ws g) (hi : Cond.initialized "java/lang/Math" ∈ sg_ws g) (hk : Cond.code yJ_max cJ_max 2 (some .int) ∈ sg_ws g) (hR : 1 ≤ R.frames ∧ 21 ≤ R.locals) (hc : ce ≤ R.cells ∧ sl ≤ R.slots) (hr8 : (st.map fun v => v.category).sum ≤ 8) (hv : (if x < y then y else x) = v) (kk : sV g M R Z (pc + 3) lv (.int v :: st) hp ce sl) : sV g M R Z pc lv (.int y :: .int x :: st) hp ce sl := by
  subst hv
  intro p e s m args below meth c H locs ls X r hl h
  obtain ⟨hx, hb, hr, hml, hown, hts, hK, hlk2, hlw, hnm⟩ := id X
  have h8 := sRoom (b := sg_r g) hr8
  have := hR.2
  exact va_mmax hx hb (by rw [hml]; exact h.1.symm) hown (hts _ hlk) (hts _ hs) (hts _ hi) (hts _ hk) hR.1 (by omega) hc.1 hc.2 hd (kk p e s m args below meth c H locs ls X r hl h)
end MMX
section JDK2
variable {g : sG} {M : sM} {R : Room} {pc : Nat} {lv : List (Nat × Value)} {hp : sHp} {ce sl : Nat}
theorem sv_aretA {C S a : Nat} {Q : Option Value → sHp → Prop} {t0 : FieldType} (hd : decode M.2.1 pc = .ok (.areturn, 1)) (hret : M.2.2.2 = some (.array t0)) (hc : ce ≤ C) (hs : sl ≤ S) (hq : Q (some (.ref a)) hp) : sV g M R (sZ g C S Q) pc lv [.ref a] hp ce sl := by
  intro p e s m args below meth c H locs ls X r hl h
  obtain ⟨hx, hb, hr, hml, hown, hts, hK, hlk, hlw, hnm⟩ := id X
  exact W.widen hc hs (W.aret (v := .ref (sg_b g + a)) hx hb (hr.trans hret) (Or.inr ⟨_, rfl⟩) (Or.inr ⟨_, rfl⟩) (fun t ht hW => ⟨some (.ref a), hp, rfl, hq, by rw [ht]; exact r, hK.moved hW.alike⟩) hl hd hlk)
end JDK2
section JDK3
variable (l : Launch) (D : va_G) (c : Nat → ClassId) (H0 : Heap) (sa : Nat × Nat × (Nat → Int32))
theorem c_cmp {d : Nat} {x y : Int32} {hp : sHp} : sC (gG l D c H0 sa) mJ_cmp d 0 0 [.int x, .int y] hp (fun r hp' => r = some (.int (if x < y then -1 else if x = y then 0 else 1)) ∧ hp' = hp) := by
  refine sC.of rfl (by decide) (le_t rfl) ?_
  refine sv_iload_n (pc := 0) dJ_cmp_0 rfl rfl ?_
  refine sv_iload_n (pc := 1) dJ_cmp_1 rfl rfl ?_
  refine sv_icmp_ge (pc := 2) (tgt := 9) dJ_cmp_2 (by decide) (fun h => ?_) (fun h => ?_)
  · refine sv_iload_n (pc := 9) dJ_cmp_9 rfl rfl ?_
    refine sv_iload_n (pc := 10) dJ_cmp_10 rfl rfl ?_
    refine sv_icmp_ne (pc := 11) (tgt := 18) dJ_cmp_11 (by decide) (fun h2 => ?_) (fun h2 => ?_)
    · refine sv_iconst (pc := 18) (v := 1) dJ_cmp_18 (by decide) ?_
      exact sv_iret (pc := 19) dJ_cmp_19 rfl (Nat.le_refl _) (Nat.le_refl _) ⟨by rw [if_neg (Int32.not_lt.mpr h), if_neg h2], rfl⟩
    · refine sv_iconst (pc := 14) (v := 0) dJ_cmp_14 (by decide) ?_
      refine sv_goto (pc := 15) (tgt := 19) dJ_cmp_15 (by decide) ?_
      exact sv_iret (pc := 19) dJ_cmp_19 rfl (Nat.le_refl _) (Nat.le_refl _) ⟨by rw [if_neg (Int32.not_lt.mpr h), if_pos h2], rfl⟩
  · refine sv_iconst (pc := 5) (v := -1) dJ_cmp_5 (by decide) ?_
    refine sv_goto (pc := 6) (tgt := 19) dJ_cmp_6 (by decide) ?_
    exact sv_iret (pc := 19) dJ_cmp_19 rfl (Nat.le_refl _) (Nat.le_refl _) ⟨by rw [if_pos (Int32.not_le.mp h)], rfl⟩
theorem c_copyI {d a n : Nat} {q : Nat → Int32} {x : Int32} {N hn : Nat} {hf : Nat → sE} (hd : 2 ≤ d) (ha : a < hn) (he : hf a = .inl (0, n, sI q)) (hx : x = nI N) (hN : N < n) (hn31 : n < 2 ^ 26) : sC (gG l D c H0 sa) mJ_copyI d 1 N [.ref a, .int x] (hn, hf) (fun r hp' => r = some (.ref hn) ∧ hp' = (hn + 1, sUp (sUp hf hn (.inl (0, N, fun _ => .int 0))) hn (.inl (0, N, sI (va_cpy q (fun _ => 0) 0 0 N))))) := by
  subst hx
  have hcl : (nI N).toNatClampNeg = N := nI_clamp (by omega)
  have hpo : ¬ nI N < 0 := nI_pos (by omega)
  refine sC.of rfl (by decide) (le_t rfl) ?_
  refine sv_iload_n (pc := 0) dJ_copyI_0 rfl rfl ?_
  refine sv_aload_n (pc := 1) dJ_copyI_1 rfl rfl ?_
  refine sv_arraylength (pc := 2) (kd := 0) (n := n) (f := sI q) (cA := c 0) (ty := .int) (v := nI n) dJ_copyI_2 rfl ha he rfl ?_
  refine sv_icmp_ne (pc := 3) (tgt := 14) dJ_copyI_3 (by decide) (fun _ => ?_) (fun h => absurd ((nI_eq (by omega) (by omega)).mp h) (by omega))
  refine sv_iload_n (pc := 14) dJ_copyI_14 rfl rfl ?_
  refine sv_newarray (pc := 15) (kd := 0) (cA := c 0) (N := N) (v := .int 0) dJ_copyI_15 rfl wA_int rfl (fun U => sI_Cond_int U _) hpo hcl (by show N * 4 ≤ _; omega) (fun _ => rfl) (Nat.le_refl _) (by show 0 + N ≤ N; omega) ?_
  refine sv_astore_n (pc := 17) dJ_copyI_17 rfl (by decide) ?_
  refine sv_aload_n (pc := 18) dJ_copyI_18 rfl rfl ?_
  refine sv_iconst (pc := 19) (v := 0) dJ_copyI_19 (by decide) ?_
  refine sv_aload_n (pc := 20) dJ_copyI_20 rfl rfl ?_
  refine sv_iconst (pc := 21) (v := 0) dJ_copyI_21 (by decide) ?_
  refine sv_aload_n (pc := 22) dJ_copyI_22 rfl rfl ?_
  have hne : a ≠ hn := by omega
  refine sv_arraylength (pc := 23) (kd := 0) (n := n) (f := sI q) (cA := c 0) (ty := .int) (v := nI n) dJ_copyI_23 rfl (show a < hn + 1 by omega) (by show sUp hf hn _ a = _; rw [sUp_ne _ _ hne]; exact he) rfl ?_
  refine sv_iload_n (pc := 24) dJ_copyI_24 rfl rfl ?_
  refine sv_min (pc := 25) (v := nI N) dJ_copyI_25 wM_J_304 wS_J_min wI_J_math wK_J_min ⟨by show 1 ≤ d; omega, by show 21 ≤ 60 * d; omega⟩ ⟨Nat.le_refl _, by show 0 + N ≤ N; omega⟩ (le_t rfl) (by rw [if_pos ((nI_ltI (by omega) (by omega)).mpr hN)]) ?_
  have hnf : nativeFrameWords "java/lang/System" "arraycopy" 5 + 19 ≤ 120 := by decide +kernel
  refine sv_copyI (pc := 28) (cA := c 0) (q := q) (q' := fun _ => 0) (n0 := n) (n1 := N) (a0 := a) (a := hn) dJ_copyI_28 wM_J_150 wN_J_ac wS_J_ac wI_J_sys rfl (by omega) (by omega) (by rw [sUp_ne _ _ hne]; exact he) (sUp_at _ _ _) (by decide) (by decide) hpo (by rw [hcl]; show 0 + N ≤ n; omega) (by rw [hcl]; show 0 + N ≤ N; omega) (by show 1 ≤ d; omega) (show _ ≤ 60 * d by omega) (le_t rfl) ?_
  rw [hcl]
  refine sv_aload_n (pc := 31) dJ_copyI_31 rfl rfl ?_
  exact sv_aretA (pc := 32) dJ_copyI_32 rfl (Nat.le_refl _) (by show 0 + N ≤ N; omega) ⟨rfl, rfl⟩
theorem c_copyJ {d a n : Nat} {q : Nat → Int64} {x : Int32} {N hn : Nat} {hf : Nat → sE} (hd : 2 ≤ d) (ha : a < hn) (he : hf a = .inl (1, n, sJ q)) (hx : x = nI N) (hN : N < n) (hn31 : n < 2 ^ 26) : sC (gG l D c H0 sa) mJ_copyJ d 1 N [.ref a, .int x] (hn, hf) (fun r hp' => r = some (.ref hn) ∧ hp' = (hn + 1, sUp (sUp hf hn (.inl (1, N, fun _ => .long 0))) hn (.inl (1, N, sJ (va_cpy q (fun _ => 0) 0 0 N))))) := by
  subst hx
  have hcl : (nI N).toNatClampNeg = N := nI_clamp (by omega)
  have hpo : ¬ nI N < 0 := nI_pos (by omega)
  refine sC.of rfl (by decide) (le_t rfl) ?_
  refine sv_iload_n (pc := 0) dJ_copyJ_0 rfl rfl ?_
  refine sv_aload_n (pc := 1) dJ_copyJ_1 rfl rfl ?_
  refine sv_arraylength (pc := 2) (kd := 1) (n := n) (f := sJ q) (cA := c 1) (ty := .long) (v := nI n) dJ_copyJ_2 rfl ha he rfl ?_
  refine sv_icmp_ne (pc := 3) (tgt := 14) dJ_copyJ_3 (by decide) (fun _ => ?_) (fun h => absurd ((nI_eq (by omega) (by omega)).mp h) (by omega))
  refine sv_iload_n (pc := 14) dJ_copyJ_14 rfl rfl ?_
  refine sv_newarray (pc := 15) (kd := 1) (cA := c 1) (N := N) (v := .long 0) dJ_copyJ_15 rfl wA_long rfl (fun U => sI_Cond_long U _) hpo hcl (by show N * 8 ≤ _; omega) (fun _ => rfl) (Nat.le_refl _) (by show 0 + N ≤ N; omega) ?_
  refine sv_astore_n (pc := 17) dJ_copyJ_17 rfl (by decide) ?_
  refine sv_aload_n (pc := 18) dJ_copyJ_18 rfl rfl ?_
  refine sv_iconst (pc := 19) (v := 0) dJ_copyJ_19 (by decide) ?_
  refine sv_aload_n (pc := 20) dJ_copyJ_20 rfl rfl ?_
  refine sv_iconst (pc := 21) (v := 0) dJ_copyJ_21 (by decide) ?_
  refine sv_aload_n (pc := 22) dJ_copyJ_22 rfl rfl ?_
  have hne : a ≠ hn := by omega
  refine sv_arraylength (pc := 23) (kd := 1) (n := n) (f := sJ q) (cA := c 1) (ty := .long) (v := nI n) dJ_copyJ_23 rfl (show a < hn + 1 by omega) (by show sUp hf hn _ a = _; rw [sUp_ne _ _ hne]; exact he) rfl ?_
  refine sv_iload_n (pc := 24) dJ_copyJ_24 rfl rfl ?_
  refine sv_min (pc := 25) (v := nI N) dJ_copyJ_25 wM_J_304 wS_J_min wI_J_math wK_J_min ⟨by show 1 ≤ d; omega, by show 21 ≤ 60 * d; omega⟩ ⟨Nat.le_refl _, by show 0 + N ≤ N; omega⟩ (le_t rfl) (by rw [if_pos ((nI_ltI (by omega) (by omega)).mpr hN)]) ?_
  have hnf : nativeFrameWords "java/lang/System" "arraycopy" 5 + 19 ≤ 120 := by decide +kernel
  refine sv_copyJ (pc := 28) (cA := c 1) (q := q) (q' := fun _ => 0) (n0 := n) (n1 := N) (a0 := a) (a := hn) dJ_copyJ_28 wM_J_150 wN_J_ac wS_J_ac wI_J_sys rfl (by omega) (by omega) (by rw [sUp_ne _ _ hne]; exact he) (sUp_at _ _ _) (by decide) (by decide) hpo (by rw [hcl]; show 0 + N ≤ n; omega) (by rw [hcl]; show 0 + N ≤ N; omega) (by show 1 ≤ d; omega) (show _ ≤ 60 * d by omega) (le_t rfl) ?_
  rw [hcl]
  refine sv_aload_n (pc := 31) dJ_copyJ_31 rfl rfl ?_
  exact sv_aretA (pc := 32) dJ_copyJ_32 rfl (Nat.le_refl _) (by show 0 + N ≤ N; omega) ⟨rfl, rfl⟩
theorem c_fillB_loop {d a n : Nat} {f : Nat → Value} {v : Int32} {hp : sHp} (ha : a < hp.1) (hn : n < 2 ^ 31) : ∀ (k i : Nat), i + k = n → ∀ (lv : List (Nat × Value)), sGet 0 lv = some (.ref a) → sGet 1 lv = some (.int v) → sGet 2 lv = some (.int (nI i)) → sGet 3 lv = some (.int (nI n)) →
    sV (gG l D c H0 sa) mJ_fillB (sRm d 0 0) (sZ (gG l D c H0 sa) 0 0 (fun r hp' => r = none ∧ hp' = (hp.1, sUp hp.2 a (.inl (2, n, sFill n (.int (vp_nar .byte v)) f))))) 5 lv [] (hp.1, sUp hp.2 a (.inl (2, n, sFill i (.int (vp_nar .byte v)) f))) 0 0 := by
  intro k
  induction k with
  | zero =>
    intro i hi lv h0 h1 h2 h3
    have : i = n := by omega
    subst this
    refine sv_iload_n dJ_fillB_5 rfl h2 ?_
    refine sv_iload_n dJ_fillB_6 rfl h3 ?_
    refine sv_icmp_ge (tgt := 20) dJ_fillB_7 (by decide) (fun _ => ?_) (fun h => absurd (Int32.le_refl _) h)
    exact sv_vret dJ_fillB_20 rfl (Nat.le_refl _) (Nat.le_refl _) ⟨rfl, rfl⟩
  | succ k ih =>
    intro i hi lv h0 h1 h2 h3
    have hin : i < n := by omega
    refine sv_iload_n dJ_fillB_5 rfl h2 ?_
    refine sv_iload_n dJ_fillB_6 rfl h3 ?_
    refine sv_icmp_ge (tgt := 20) dJ_fillB_7 (by decide) (fun h => absurd h (nI_ge hin hn)) (fun _ => ?_)
    refine sv_aload_n dJ_fillB_10 rfl h0 ?_
    refine sv_iload_n dJ_fillB_11 rfl h2 ?_
    refine sv_iload_n dJ_fillB_12 rfl h1 ?_
    refine sv_bastore (kd := 2) (cA := c 2) (n := n) (f := sFill i (.int (vp_nar .byte v)) f) dJ_fillB_13 rfl ha (sUp_at _ _ _) (vp_in_nI hin hn) ?_
    rw [nI_clamp (show i < 2 ^ 31 by omega), sFill_up]
    refine sv_iincK (k := 1) dJ_fillB_14 (by decide) h2 (by decide) ?_
    refine sv_goto (tgt := 5) dJ_fillB_17 (by decide) ?_
    show sV _ _ _ _ _ _ _ (hp.1, sUp (sUp hp.2 a (.inl (2, n, sFill i (.int (vp_nar .byte v)) f))) a (.inl (2, n, sFill (i + 1) (.int (vp_nar .byte v)) f))) _ _
    rw [sUp_sUp, nI_1]
    exact ih (i + 1) (by omega) _ (sGet_keep h0 (by decide)) (sGet_keep h1 (by decide)) sGet_new (sGet_keep h3 (by decide))
theorem c_fillB {d a n : Nat} {f : Nat → Value} {v : Int32} {hp : sHp} (ha : a < hp.1) (he : hp.2 a = .inl (2, n, f)) (hn : n < 2 ^ 31) : sC (gG l D c H0 sa) mJ_fillB d 0 0 [.ref a, .int v] hp (fun r hp' => r = none ∧ hp' = (hp.1, sUp hp.2 a (.inl (2, n, sFill n (.int (vp_nar .byte v)) f)))) := by
  refine sC.of rfl (by decide) (le_t rfl) ?_
  refine sv_iconst (v := 0) dJ_fillB_0 (by decide) ?_
  refine sv_istore_n dJ_fillB_1 rfl (by decide) ?_
  refine sv_aload_n dJ_fillB_2 rfl rfl ?_
  refine sv_arraylength (cA := c 2) (ty := .byte) dJ_fillB_3 rfl ha he rfl ?_
  refine sv_istore_n dJ_fillB_4 rfl (by decide) ?_
  refine sv_heap (hp' := (hp.1, sUp hp.2 a (.inl (2, n, sFill 0 (.int (vp_nar .byte v)) f)))) rfl (fun j _ => ?_) (c_fillB_loop l D c H0 sa ha hn n 0 (by omega) _ rfl rfl rfl rfl)
  show hp.2 j = sUp hp.2 a _ j
  rw [sFill_0]
  by_cases h : j = a
  · subst h; rw [sUp_at]; exact he
  · rw [sUp_ne _ _ h]
end JDK3
end
