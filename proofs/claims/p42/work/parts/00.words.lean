section
-- ===== PART A: goes FIRST, ahead of the names: the tables' words, and 'selects' of the private methods out of them =====
/-- a private method of a class that the tables say can be made, by its rows of tables_1 -/
def lw_okq (q : MethodName × Nat) : Prop := (q.1.cls ≠ "java/lang/invoke/MethodHandle" ∧ q.1.cls ≠ "java/lang/invoke/VarHandle") ∧ Cond.instantiable q.1.cls q.2 ∈ tables_1 ∧ Cond.privateMethod q.1 ∈ tables_1 ∧ Cond.instanceMethod q.1 ∈ tables_1
theorem lw_in1 {w : Cond} (i : Nat) (q : tables_1_1[i]? = some w) : w ∈ tables_1 := have h := List.mem_of_getElem? q; (show w ∈ tables_1 from (List.mem_append_left _ h))
theorem lw_in2 {w : Cond} (i : Nat) (q : tables_1_2[i]? = some w) : w ∈ tables_1 := have h := List.mem_of_getElem? q; (show w ∈ tables_1 from (List.mem_append_right _ (List.mem_append_left _ h)))
theorem lw_in3 {w : Cond} (i : Nat) (q : tables_1_3[i]? = some w) : w ∈ tables_1 := have h := List.mem_of_getElem? q; (show w ∈ tables_1 from (List.mem_append_right _ (List.mem_append_right _ (List.mem_append_left _ h))))
theorem lw_in4 {w : Cond} (i : Nat) (q : tables_1_4[i]? = some w) : w ∈ tables_1 := have h := List.mem_of_getElem? q; (show w ∈ tables_1 from (List.mem_append_right _ (List.mem_append_right _ (List.mem_append_right _ (List.mem_append_left _ h)))))
theorem lw_in5 {w : Cond} (i : Nat) (q : tables_1_5[i]? = some w) : w ∈ tables_1 := have h := List.mem_of_getElem? q; (show w ∈ tables_1 from (List.mem_append_right _ (List.mem_append_right _ (List.mem_append_right _ (List.mem_append_right _ (List.mem_append_left _ h))))))
theorem lw_in6 {w : Cond} (i : Nat) (q : tables_1_6[i]? = some w) : w ∈ tables_1 := have h := List.mem_of_getElem? q; (show w ∈ tables_1 from (List.mem_append_right _ (List.mem_append_right _ (List.mem_append_right _ (List.mem_append_right _ (List.mem_append_right _ (List.mem_append_left _ h)))))))
theorem lw_in7 {w : Cond} (i : Nat) (q : tables_1_7[i]? = some w) : w ∈ tables_1 := have h := List.mem_of_getElem? q; (show w ∈ tables_1 from (List.mem_append_right _ (List.mem_append_right _ (List.mem_append_right _ (List.mem_append_right _ (List.mem_append_right _ (List.mem_append_right _ (List.mem_append_left _ h))))))))
theorem lw_in8 {w : Cond} (i : Nat) (q : tables_1_8[i]? = some w) : w ∈ tables_1 := have h := List.mem_of_getElem? q; (show w ∈ tables_1 from (List.mem_append_right _ (List.mem_append_right _ (List.mem_append_right _ (List.mem_append_right _ (List.mem_append_right _ (List.mem_append_right _ (List.mem_append_right _ (List.mem_append_left _ h)))))))))
theorem lw_in9 {w : Cond} (i : Nat) (q : tables_1_9[i]? = some w) : w ∈ tables_1 := have h := List.mem_of_getElem? q; (show w ∈ tables_1 from (List.mem_append_right _ (List.mem_append_right _ (List.mem_append_right _ (List.mem_append_right _ (List.mem_append_right _ (List.mem_append_right _ (List.mem_append_right _ (List.mem_append_right _ (List.mem_append_left _ h))))))))))
theorem lw_in10 {w : Cond} (i : Nat) (q : tables_1_10[i]? = some w) : w ∈ tables_1 := have h := List.mem_of_getElem? q; (show w ∈ tables_1 from (List.mem_append_right _ (List.mem_append_right _ (List.mem_append_right _ (List.mem_append_right _ (List.mem_append_right _ (List.mem_append_right _ (List.mem_append_right _ (List.mem_append_right _ (List.mem_append_right _ (List.mem_append_left _ h)))))))))))
theorem lw_in11 {w : Cond} (i : Nat) (q : tables_1_11[i]? = some w) : w ∈ tables_1 := have h := List.mem_of_getElem? q; (show w ∈ tables_1 from (List.mem_append_right _ (List.mem_append_right _ (List.mem_append_right _ (List.mem_append_right _ (List.mem_append_right _ (List.mem_append_right _ (List.mem_append_right _ (List.mem_append_right _ (List.mem_append_right _ (List.mem_append_right _ h)))))))))))
theorem lw_p0 : lw_okq (⟨"DomainHouse", "feedNumber", "(I)V"⟩, 12) := ⟨⟨by decide +kernel, by decide +kernel⟩, lw_in1 23 rfl, lw_in3 96 rfl, lw_in3 97 rfl⟩
theorem lw_p1 : lw_okq (⟨"DomainHouse", "isDomain", "(I)Z"⟩, 12) := ⟨⟨by decide +kernel, by decide +kernel⟩, lw_in1 23 rfl, lw_in3 171 rfl, lw_in3 172 rfl⟩
theorem lw_p2 : lw_okq (⟨"DomainHouse", "isTie", "(I)Z"⟩, 12) := ⟨⟨by decide +kernel, by decide +kernel⟩, lw_in1 23 rfl, lw_in3 239 rfl, lw_in4 0 rfl⟩
theorem lw_p3 : lw_okq (⟨"DomainHouse$Talk", "say", "(III)V"⟩, 13) := ⟨⟨by decide +kernel, by decide +kernel⟩, lw_in2 72 rfl, lw_in4 11 rfl, lw_in4 12 rfl⟩
theorem lw_p4 : lw_okq (⟨"DomainHouse$Talk", "compose", "(LDomainHouse$Tie;III)V"⟩, 13) := ⟨⟨by decide +kernel, by decide +kernel⟩, lw_in2 72 rfl, lw_in4 15 rfl, lw_in4 16 rfl⟩
theorem lw_p5 : lw_okq (⟨"DomainHouse$Judge", "goThrough", "(II)V"⟩, 9) := ⟨⟨by decide +kernel, by decide +kernel⟩, lw_in1 205 rfl, lw_in4 43 rfl, lw_in4 44 rfl⟩
theorem lw_p6 : lw_okq (⟨"DomainHouse$Judge", "isSo", "(LDomainHouse$Policy;I)Z"⟩, 9) := ⟨⟨by decide +kernel, by decide +kernel⟩, lw_in1 205 rfl, lw_in4 47 rfl, lw_in4 48 rfl⟩
theorem lw_p7 : lw_okq (⟨"DomainHouse$Judge", "doActs", "([IIII)V"⟩, 9) := ⟨⟨by decide +kernel, by decide +kernel⟩, lw_in1 205 rfl, lw_in4 67 rfl, lw_in4 68 rfl⟩
theorem lw_p8 : lw_okq (⟨"DomainHouse$Talk", "schedule", "(II)V"⟩, 13) := ⟨⟨by decide +kernel, by decide +kernel⟩, lw_in2 72 rfl, lw_in4 90 rfl, lw_in4 91 rfl⟩
theorem lw_p9 : lw_okq (⟨"DomainHouse$Talk", "cancel", "(I)V"⟩, 13) := ⟨⟨by decide +kernel, by decide +kernel⟩, lw_in2 72 rfl, lw_in4 95 rfl, lw_in4 96 rfl⟩
theorem lw_p10 : lw_okq (⟨"DomainHouse$Talk", "gather", "(II)V"⟩, 13) := ⟨⟨by decide +kernel, by decide +kernel⟩, lw_in2 72 rfl, lw_in4 120 rfl, lw_in4 121 rfl⟩
theorem lw_p11 : lw_okq (⟨"DomainHouse$Talk", "pickGrouped", "(LDomainHouse$Domain;)I"⟩, 13) := ⟨⟨by decide +kernel, by decide +kernel⟩, lw_in2 72 rfl, lw_in4 132 rfl, lw_in4 133 rfl⟩
theorem lw_p12 : lw_okq (⟨"DomainHouse$Talk", "isFirstOfGroup", "(I)Z"⟩, 13) := ⟨⟨by decide +kernel, by decide +kernel⟩, lw_in2 72 rfl, lw_in4 136 rfl, lw_in4 137 rfl⟩
theorem lw_p13 : lw_okq (⟨"DomainHouse$Talk", "bestOfGroup", "(LDomainHouse$Domain;I)I"⟩, 13) := ⟨⟨by decide +kernel, by decide +kernel⟩, lw_in2 72 rfl, lw_in4 144 rfl, lw_in4 145 rfl⟩
theorem lw_p14 : lw_okq (⟨"DomainHouse$Talk", "insertWinner", "(II)V"⟩, 13) := ⟨⟨by decide +kernel, by decide +kernel⟩, lw_in2 72 rfl, lw_in4 157 rfl, lw_in4 158 rfl⟩
theorem lw_p15 : lw_okq (⟨"DomainHouse$Talk", "groupOrder", "(I)J"⟩, 13) := ⟨⟨by decide +kernel, by decide +kernel⟩, lw_in2 72 rfl, lw_in4 161 rfl, lw_in4 162 rfl⟩
def lw_privs_1 : List (MethodName × Nat) := [(⟨"DomainHouse", "feedNumber", "(I)V"⟩, 12), (⟨"DomainHouse", "isDomain", "(I)Z"⟩, 12), (⟨"DomainHouse", "isTie", "(I)Z"⟩, 12), (⟨"DomainHouse$Talk", "say", "(III)V"⟩, 13), (⟨"DomainHouse$Talk", "compose", "(LDomainHouse$Tie;III)V"⟩, 13), (⟨"DomainHouse$Judge", "goThrough", "(II)V"⟩, 9), (⟨"DomainHouse$Judge", "isSo", "(LDomainHouse$Policy;I)Z"⟩, 9), (⟨"DomainHouse$Judge", "doActs", "([IIII)V"⟩, 9), (⟨"DomainHouse$Talk", "schedule", "(II)V"⟩, 13), (⟨"DomainHouse$Talk", "cancel", "(I)V"⟩, 13), (⟨"DomainHouse$Talk", "gather", "(II)V"⟩, 13), (⟨"DomainHouse$Talk", "pickGrouped", "(LDomainHouse$Domain;)I"⟩, 13), (⟨"DomainHouse$Talk", "isFirstOfGroup", "(I)Z"⟩, 13), (⟨"DomainHouse$Talk", "bestOfGroup", "(LDomainHouse$Domain;I)I"⟩, 13), (⟨"DomainHouse$Talk", "insertWinner", "(II)V"⟩, 13), (⟨"DomainHouse$Talk", "groupOrder", "(I)J"⟩, 13)]
theorem lw_r1 : ∀ q ∈ lw_privs_1, lw_okq q := List.forall_mem_cons.mpr ⟨lw_p0, List.forall_mem_cons.mpr ⟨lw_p1, List.forall_mem_cons.mpr ⟨lw_p2, List.forall_mem_cons.mpr ⟨lw_p3, List.forall_mem_cons.mpr ⟨lw_p4, List.forall_mem_cons.mpr ⟨lw_p5, List.forall_mem_cons.mpr ⟨lw_p6, List.forall_mem_cons.mpr ⟨lw_p7, List.forall_mem_cons.mpr ⟨lw_p8, List.forall_mem_cons.mpr ⟨lw_p9, List.forall_mem_cons.mpr ⟨lw_p10, List.forall_mem_cons.mpr ⟨lw_p11, List.forall_mem_cons.mpr ⟨lw_p12, List.forall_mem_cons.mpr ⟨lw_p13, List.forall_mem_cons.mpr ⟨lw_p14, List.forall_mem_cons.mpr ⟨lw_p15, fun _ h => absurd h List.not_mem_nil⟩⟩⟩⟩⟩⟩⟩⟩⟩⟩⟩⟩⟩⟩⟩⟩
theorem lw_p16 : lw_okq (⟨"DomainHouse$Talk", "lastStanding", "(LDomainHouse$Domain;I)I"⟩, 13) := ⟨⟨by decide +kernel, by decide +kernel⟩, lw_in2 72 rfl, lw_in4 167 rfl, lw_in4 168 rfl⟩
theorem lw_p17 : lw_okq (⟨"DomainHouse$Talk", "pickPlain", "(LDomainHouse$Domain;)I"⟩, 13) := ⟨⟨by decide +kernel, by decide +kernel⟩, lw_in2 72 rfl, lw_in4 171 rfl, lw_in4 172 rfl⟩
theorem lw_p18 : lw_okq (⟨"DomainHouse$World", "shortestRing", "(I)I"⟩, 19) := ⟨⟨by decide +kernel, by decide +kernel⟩, lw_in1 112 rfl, lw_in4 197 rfl, lw_in4 198 rfl⟩
theorem lw_p19 : lw_okq (⟨"DomainHouse$World", "fillRing", "(II)V"⟩, 19) := ⟨⟨by decide +kernel, by decide +kernel⟩, lw_in1 112 rfl, lw_in4 205 rfl, lw_in4 206 rfl⟩
theorem lw_p20 : lw_okq (⟨"DomainHouse$World", "leastCustomer", "(II)I"⟩, 19) := ⟨⟨by decide +kernel, by decide +kernel⟩, lw_in1 112 rfl, lw_in4 209 rfl, lw_in4 210 rfl⟩
theorem lw_p21 : lw_okq (⟨"DomainHouse", "isPrefix", "(I)Z"⟩, 12) := ⟨⟨by decide +kernel, by decide +kernel⟩, lw_in1 23 rfl, lw_in5 2 rfl, lw_in5 3 rfl⟩
theorem lw_p22 : lw_okq (⟨"DomainHouse$Reader", "split", "([II)V"⟩, 20) := ⟨⟨by decide +kernel, by decide +kernel⟩, lw_in2 2 rfl, lw_in5 27 rfl, lw_in5 28 rfl⟩
theorem lw_p23 : lw_okq (⟨"DomainHouse$Reader", "putToken", "(III)V"⟩, 20) := ⟨⟨by decide +kernel, by decide +kernel⟩, lw_in2 2 rfl, lw_in5 86 rfl, lw_in5 87 rfl⟩
theorem lw_p24 : lw_okq (⟨"DomainHouse$Reader", "putNumber", "([III)V"⟩, 20) := ⟨⟨by decide +kernel, by decide +kernel⟩, lw_in2 2 rfl, lw_in5 93 rfl, lw_in5 94 rfl⟩
theorem lw_p25 : lw_okq (⟨"DomainHouse$Reader", "readRow", "()V"⟩, 20) := ⟨⟨by decide +kernel, by decide +kernel⟩, lw_in2 2 rfl, lw_in5 97 rfl, lw_in5 98 rfl⟩
theorem lw_p26 : lw_okq (⟨"DomainHouse$Reader", "fail", "(I)V"⟩, 20) := ⟨⟨by decide +kernel, by decide +kernel⟩, lw_in2 2 rfl, lw_in5 104 rfl, lw_in5 105 rfl⟩
theorem lw_p27 : lw_okq (⟨"DomainHouse$Reader", "put", "(I)V"⟩, 20) := ⟨⟨by decide +kernel, by decide +kernel⟩, lw_in2 2 rfl, lw_in5 108 rfl, lw_in5 109 rfl⟩
theorem lw_p28 : lw_okq (⟨"DomainHouse$Reader", "take", "(I)Z"⟩, 20) := ⟨⟨by decide +kernel, by decide +kernel⟩, lw_in2 2 rfl, lw_in5 112 rfl, lw_in5 113 rfl⟩
theorem lw_p29 : lw_okq (⟨"DomainHouse$Reader", "step", "()V"⟩, 20) := ⟨⟨by decide +kernel, by decide +kernel⟩, lw_in2 2 rfl, lw_in5 116 rfl, lw_in5 117 rfl⟩
theorem lw_p30 : lw_okq (⟨"DomainHouse$Reader", "readTest", "()V"⟩, 20) := ⟨⟨by decide +kernel, by decide +kernel⟩, lw_in2 2 rfl, lw_in5 120 rfl, lw_in5 121 rfl⟩
theorem lw_p31 : lw_okq (⟨"DomainHouse$Reader", "readHeldIn", "(I)V"⟩, 20) := ⟨⟨by decide +kernel, by decide +kernel⟩, lw_in2 2 rfl, lw_in5 127 rfl, lw_in5 128 rfl⟩
def lw_privs_2 : List (MethodName × Nat) := [(⟨"DomainHouse$Talk", "lastStanding", "(LDomainHouse$Domain;I)I"⟩, 13), (⟨"DomainHouse$Talk", "pickPlain", "(LDomainHouse$Domain;)I"⟩, 13), (⟨"DomainHouse$World", "shortestRing", "(I)I"⟩, 19), (⟨"DomainHouse$World", "fillRing", "(II)V"⟩, 19), (⟨"DomainHouse$World", "leastCustomer", "(II)I"⟩, 19), (⟨"DomainHouse", "isPrefix", "(I)Z"⟩, 12), (⟨"DomainHouse$Reader", "split", "([II)V"⟩, 20), (⟨"DomainHouse$Reader", "putToken", "(III)V"⟩, 20), (⟨"DomainHouse$Reader", "putNumber", "([III)V"⟩, 20), (⟨"DomainHouse$Reader", "readRow", "()V"⟩, 20), (⟨"DomainHouse$Reader", "fail", "(I)V"⟩, 20), (⟨"DomainHouse$Reader", "put", "(I)V"⟩, 20), (⟨"DomainHouse$Reader", "take", "(I)Z"⟩, 20), (⟨"DomainHouse$Reader", "step", "()V"⟩, 20), (⟨"DomainHouse$Reader", "readTest", "()V"⟩, 20), (⟨"DomainHouse$Reader", "readHeldIn", "(I)V"⟩, 20)]
theorem lw_r2 : ∀ q ∈ lw_privs_2, lw_okq q := List.forall_mem_cons.mpr ⟨lw_p16, List.forall_mem_cons.mpr ⟨lw_p17, List.forall_mem_cons.mpr ⟨lw_p18, List.forall_mem_cons.mpr ⟨lw_p19, List.forall_mem_cons.mpr ⟨lw_p20, List.forall_mem_cons.mpr ⟨lw_p21, List.forall_mem_cons.mpr ⟨lw_p22, List.forall_mem_cons.mpr ⟨lw_p23, List.forall_mem_cons.mpr ⟨lw_p24, List.forall_mem_cons.mpr ⟨lw_p25, List.forall_mem_cons.mpr ⟨lw_p26, List.forall_mem_cons.mpr ⟨lw_p27, List.forall_mem_cons.mpr ⟨lw_p28, List.forall_mem_cons.mpr ⟨lw_p29, List.forall_mem_cons.mpr ⟨lw_p30, List.forall_mem_cons.mpr ⟨lw_p31, fun _ h => absurd h List.not_mem_nil⟩⟩⟩⟩⟩⟩⟩⟩⟩⟩⟩⟩⟩⟩⟩⟩
theorem lw_p32 : lw_okq (⟨"DomainHouse$Reader", "number", "(II)I"⟩, 20) := ⟨⟨by decide +kernel, by decide +kernel⟩, lw_in2 2 rfl, lw_in5 131 rfl, lw_in5 132 rfl⟩
theorem lw_p33 : lw_okq (⟨"DomainHouse$Reader", "expect", "(I)V"⟩, 20) := ⟨⟨by decide +kernel, by decide +kernel⟩, lw_in2 2 rfl, lw_in5 135 rfl, lw_in5 136 rfl⟩
theorem lw_p34 : lw_okq (⟨"DomainHouse$Reader", "putTest", "(IIIII)V"⟩, 20) := ⟨⟨by decide +kernel, by decide +kernel⟩, lw_in2 2 rfl, lw_in5 140 rfl, lw_in5 141 rfl⟩
theorem lw_p35 : lw_okq (⟨"DomainHouse$Reader", "readWay", "(I)V"⟩, 20) := ⟨⟨by decide +kernel, by decide +kernel⟩, lw_in2 2 rfl, lw_in5 144 rfl, lw_in5 145 rfl⟩
theorem lw_p36 : lw_okq (⟨"DomainHouse$Reader", "readBranches", "(I)V"⟩, 20) := ⟨⟨by decide +kernel, by decide +kernel⟩, lw_in2 2 rfl, lw_in5 148 rfl, lw_in5 149 rfl⟩
theorem lw_p37 : lw_okq (⟨"DomainHouse$Reader", "readGroup", "(I)V"⟩, 20) := ⟨⟨by decide +kernel, by decide +kernel⟩, lw_in2 2 rfl, lw_in5 155 rfl, lw_in5 156 rfl⟩
theorem lw_p38 : lw_okq (⟨"DomainHouse$Reader", "readPlace", "()V"⟩, 20) := ⟨⟨by decide +kernel, by decide +kernel⟩, lw_in2 2 rfl, lw_in5 159 rfl, lw_in5 160 rfl⟩
theorem lw_p39 : lw_okq (⟨"DomainHouse$Reader", "readRepeat", "()V"⟩, 20) := ⟨⟨by decide +kernel, by decide +kernel⟩, lw_in2 2 rfl, lw_in5 164 rfl, lw_in5 165 rfl⟩
theorem lw_p40 : lw_okq (⟨"DomainHouse$Reader", "join", "(JJ)V"⟩, 20) := ⟨⟨by decide +kernel, by decide +kernel⟩, lw_in2 2 rfl, lw_in5 168 rfl, lw_in5 169 rfl⟩
theorem lw_p41 : lw_okq (⟨"DomainHouse$Reader", "oneOf", "(II)I"⟩, 20) := ⟨⟨by decide +kernel, by decide +kernel⟩, lw_in2 2 rfl, lw_in5 173 rfl, lw_in5 174 rfl⟩
theorem lw_p42 : lw_okq (⟨"DomainHouse$Reader", "relation", "()I"⟩, 20) := ⟨⟨by decide +kernel, by decide +kernel⟩, lw_in2 2 rfl, lw_in5 180 rfl, lw_in5 181 rfl⟩
theorem lw_p43 : lw_okq (⟨"DomainHouse$Reader", "readAct", "()V"⟩, 20) := ⟨⟨by decide +kernel, by decide +kernel⟩, lw_in2 2 rfl, lw_in5 184 rfl, lw_in5 185 rfl⟩
theorem lw_p44 : lw_okq (⟨"DomainHouse", "rowInHand", "(I)I"⟩, 12) := ⟨⟨by decide +kernel, by decide +kernel⟩, lw_in1 23 rfl, lw_in6 24 rfl, lw_in6 25 rfl⟩
theorem lw_p45 : lw_okq (⟨"DomainHouse$Talk", "handOver", "(LDomainHouse$Tie;II)V"⟩, 13) := ⟨⟨by decide +kernel, by decide +kernel⟩, lw_in2 72 rfl, lw_in6 62 rfl, lw_in6 63 rfl⟩
theorem lw_p46 : lw_okq (⟨"DomainHouse$Talk", "candidateOver", "(I)I"⟩, 13) := ⟨⟨by decide +kernel, by decide +kernel⟩, lw_in2 72 rfl, lw_in6 93 rfl, lw_in6 94 rfl⟩
theorem lw_p47 : lw_okq (⟨"DomainHouse$Message", "forget", "()V"⟩, 17) := ⟨⟨by decide +kernel, by decide +kernel⟩, lw_in2 127 rfl, lw_in6 117 rfl, lw_in6 118 rfl⟩
def lw_privs_3 : List (MethodName × Nat) := [(⟨"DomainHouse$Reader", "number", "(II)I"⟩, 20), (⟨"DomainHouse$Reader", "expect", "(I)V"⟩, 20), (⟨"DomainHouse$Reader", "putTest", "(IIIII)V"⟩, 20), (⟨"DomainHouse$Reader", "readWay", "(I)V"⟩, 20), (⟨"DomainHouse$Reader", "readBranches", "(I)V"⟩, 20), (⟨"DomainHouse$Reader", "readGroup", "(I)V"⟩, 20), (⟨"DomainHouse$Reader", "readPlace", "()V"⟩, 20), (⟨"DomainHouse$Reader", "readRepeat", "()V"⟩, 20), (⟨"DomainHouse$Reader", "join", "(JJ)V"⟩, 20), (⟨"DomainHouse$Reader", "oneOf", "(II)I"⟩, 20), (⟨"DomainHouse$Reader", "relation", "()I"⟩, 20), (⟨"DomainHouse$Reader", "readAct", "()V"⟩, 20), (⟨"DomainHouse", "rowInHand", "(I)I"⟩, 12), (⟨"DomainHouse$Talk", "handOver", "(LDomainHouse$Tie;II)V"⟩, 13), (⟨"DomainHouse$Talk", "candidateOver", "(I)I"⟩, 13), (⟨"DomainHouse$Message", "forget", "()V"⟩, 17)]
theorem lw_r3 : ∀ q ∈ lw_privs_3, lw_okq q := List.forall_mem_cons.mpr ⟨lw_p32, List.forall_mem_cons.mpr ⟨lw_p33, List.forall_mem_cons.mpr ⟨lw_p34, List.forall_mem_cons.mpr ⟨lw_p35, List.forall_mem_cons.mpr ⟨lw_p36, List.forall_mem_cons.mpr ⟨lw_p37, List.forall_mem_cons.mpr ⟨lw_p38, List.forall_mem_cons.mpr ⟨lw_p39, List.forall_mem_cons.mpr ⟨lw_p40, List.forall_mem_cons.mpr ⟨lw_p41, List.forall_mem_cons.mpr ⟨lw_p42, List.forall_mem_cons.mpr ⟨lw_p43, List.forall_mem_cons.mpr ⟨lw_p44, List.forall_mem_cons.mpr ⟨lw_p45, List.forall_mem_cons.mpr ⟨lw_p46, List.forall_mem_cons.mpr ⟨lw_p47, fun _ h => absurd h List.not_mem_nil⟩⟩⟩⟩⟩⟩⟩⟩⟩⟩⟩⟩⟩⟩⟩⟩
theorem lw_p48 : lw_okq (⟨"DomainHouse$Message", "readParts", "(I)V"⟩, 17) := ⟨⟨by decide +kernel, by decide +kernel⟩, lw_in2 127 rfl, lw_in6 123 rfl, lw_in6 124 rfl⟩
theorem lw_p49 : lw_okq (⟨"DomainHouse$Message", "pairAt", "(I)I"⟩, 17) := ⟨⟨by decide +kernel, by decide +kernel⟩, lw_in2 127 rfl, lw_in6 127 rfl, lw_in6 128 rfl⟩
theorem lw_p50 : lw_okq (⟨"DomainHouse$Message", "note", "(II)V"⟩, 17) := ⟨⟨by decide +kernel, by decide +kernel⟩, lw_in2 127 rfl, lw_in6 131 rfl, lw_in6 132 rfl⟩
theorem lw_p51 : lw_okq (⟨"DomainHouse$Message", "readPrefixes", "(III)I"⟩, 17) := ⟨⟨by decide +kernel, by decide +kernel⟩, lw_in2 127 rfl, lw_in6 135 rfl, lw_in6 136 rfl⟩
theorem lw_p52 : lw_okq (⟨"DomainHouse$Message", "readAttributes", "(II)V"⟩, 17) := ⟨⟨by decide +kernel, by decide +kernel⟩, lw_in2 127 rfl, lw_in6 140 rfl, lw_in6 141 rfl⟩
theorem lw_p53 : lw_okq (⟨"DomainHouse$Message", "readAttribute", "(III)V"⟩, 17) := ⟨⟨by decide +kernel, by decide +kernel⟩, lw_in2 127 rfl, lw_in6 144 rfl, lw_in6 145 rfl⟩
theorem lw_p54 : lw_okq (⟨"DomainHouse$Message", "readOrigin", "(II)Z"⟩, 17) := ⟨⟨by decide +kernel, by decide +kernel⟩, lw_in2 127 rfl, lw_in6 148 rfl, lw_in6 149 rfl⟩
theorem lw_p55 : lw_okq (⟨"DomainHouse$Message", "readWay", "(II)Z"⟩, 17) := ⟨⟨by decide +kernel, by decide +kernel⟩, lw_in2 127 rfl, lw_in6 152 rfl, lw_in6 153 rfl⟩
theorem lw_p56 : lw_okq (⟨"DomainHouse$Message", "fourAt", "(I)I"⟩, 17) := ⟨⟨by decide +kernel, by decide +kernel⟩, lw_in2 127 rfl, lw_in6 156 rfl, lw_in6 157 rfl⟩
theorem lw_p57 : lw_okq (⟨"DomainHouse$Message", "readCost", "(II)Z"⟩, 17) := ⟨⟨by decide +kernel, by decide +kernel⟩, lw_in2 127 rfl, lw_in6 164 rfl, lw_in6 165 rfl⟩
theorem lw_p58 : lw_okq (⟨"DomainHouse$Message", "readMarks", "(II)Z"⟩, 17) := ⟨⟨by decide +kernel, by decide +kernel⟩, lw_in2 127 rfl, lw_in6 169 rfl, lw_in6 170 rfl⟩
theorem lw_p59 : lw_okq (⟨"DomainHouse$Message", "keepMark", "(I)V"⟩, 17) := ⟨⟨by decide +kernel, by decide +kernel⟩, lw_in2 127 rfl, lw_in6 173 rfl, lw_in6 174 rfl⟩
theorem lw_p60 : lw_okq (⟨"DomainHouse$Message", "carry", "(II)V"⟩, 17) := ⟨⟨by decide +kernel, by decide +kernel⟩, lw_in2 127 rfl, lw_in6 177 rfl, lw_in6 178 rfl⟩
theorem lw_p61 : lw_okq (⟨"DomainHouse$Message", "placeTold", "()I"⟩, 17) := ⟨⟨by decide +kernel, by decide +kernel⟩, lw_in2 127 rfl, lw_in6 190 rfl, lw_in6 191 rfl⟩
theorem lw_p62 : lw_okq (⟨"DomainHouse$Message", "toldInAll", "(I)I"⟩, 17) := ⟨⟨by decide +kernel, by decide +kernel⟩, lw_in2 127 rfl, lw_in6 194 rfl, lw_in6 195 rfl⟩
theorem lw_p63 : lw_okq (⟨"DomainHouse$Message", "toldOfRow", "(I)I"⟩, 17) := ⟨⟨by decide +kernel, by decide +kernel⟩, lw_in2 127 rfl, lw_in6 198 rfl, lw_in6 199 rfl⟩
def lw_privs_4 : List (MethodName × Nat) := [(⟨"DomainHouse$Message", "readParts", "(I)V"⟩, 17), (⟨"DomainHouse$Message", "pairAt", "(I)I"⟩, 17), (⟨"DomainHouse$Message", "note", "(II)V"⟩, 17), (⟨"DomainHouse$Message", "readPrefixes", "(III)I"⟩, 17), (⟨"DomainHouse$Message", "readAttributes", "(II)V"⟩, 17), (⟨"DomainHouse$Message", "readAttribute", "(III)V"⟩, 17), (⟨"DomainHouse$Message", "readOrigin", "(II)Z"⟩, 17), (⟨"DomainHouse$Message", "readWay", "(II)Z"⟩, 17), (⟨"DomainHouse$Message", "fourAt", "(I)I"⟩, 17), (⟨"DomainHouse$Message", "readCost", "(II)Z"⟩, 17), (⟨"DomainHouse$Message", "readMarks", "(II)Z"⟩, 17), (⟨"DomainHouse$Message", "keepMark", "(I)V"⟩, 17), (⟨"DomainHouse$Message", "carry", "(II)V"⟩, 17), (⟨"DomainHouse$Message", "placeTold", "()I"⟩, 17), (⟨"DomainHouse$Message", "toldInAll", "(I)I"⟩, 17), (⟨"DomainHouse$Message", "toldOfRow", "(I)I"⟩, 17)]
theorem lw_r4 : ∀ q ∈ lw_privs_4, lw_okq q := List.forall_mem_cons.mpr ⟨lw_p48, List.forall_mem_cons.mpr ⟨lw_p49, List.forall_mem_cons.mpr ⟨lw_p50, List.forall_mem_cons.mpr ⟨lw_p51, List.forall_mem_cons.mpr ⟨lw_p52, List.forall_mem_cons.mpr ⟨lw_p53, List.forall_mem_cons.mpr ⟨lw_p54, List.forall_mem_cons.mpr ⟨lw_p55, List.forall_mem_cons.mpr ⟨lw_p56, List.forall_mem_cons.mpr ⟨lw_p57, List.forall_mem_cons.mpr ⟨lw_p58, List.forall_mem_cons.mpr ⟨lw_p59, List.forall_mem_cons.mpr ⟨lw_p60, List.forall_mem_cons.mpr ⟨lw_p61, List.forall_mem_cons.mpr ⟨lw_p62, List.forall_mem_cons.mpr ⟨lw_p63, fun _ h => absurd h List.not_mem_nil⟩⟩⟩⟩⟩⟩⟩⟩⟩⟩⟩⟩⟩⟩⟩⟩
theorem lw_p64 : lw_okq (⟨"DomainHouse$Message", "putNumber", "(II)V"⟩, 17) := ⟨⟨by decide +kernel, by decide +kernel⟩, lw_in2 127 rfl, lw_in6 219 rfl, lw_in6 220 rfl⟩
theorem lw_p65 : lw_okq (⟨"DomainHouse$Message", "putPrefix", "(II)V"⟩, 17) := ⟨⟨by decide +kernel, by decide +kernel⟩, lw_in2 127 rfl, lw_in6 223 rfl, lw_in6 224 rfl⟩
theorem lw_p66 : lw_okq (⟨"DomainHouse$Message", "putAttributes", "(LDomainHouse$Route;)V"⟩, 17) := ⟨⟨by decide +kernel, by decide +kernel⟩, lw_in2 127 rfl, lw_in6 227 rfl, lw_in6 228 rfl⟩
theorem lw_p67 : lw_okq (⟨"DomainHouse$Message", "putHead", "(III)V"⟩, 17) := ⟨⟨by decide +kernel, by decide +kernel⟩, lw_in2 127 rfl, lw_in6 231 rfl, lw_in6 232 rfl⟩
theorem lw_p68 : lw_okq (⟨"DomainHouse$Letters", "travel", "(II)I"⟩, 11) := ⟨⟨by decide +kernel, by decide +kernel⟩, lw_in2 196 rfl, lw_in7 7 rfl, lw_in7 8 rfl⟩
theorem lw_p69 : lw_okq (⟨"DomainHouse$Letters", "partnerFor", "(II)I"⟩, 11) := ⟨⟨by decide +kernel, by decide +kernel⟩, lw_in2 196 rfl, lw_in7 11 rfl, lw_in7 12 rfl⟩
theorem lw_p70 : lw_okq (⟨"DomainHouse$Letters", "tieFor", "(II)I"⟩, 11) := ⟨⟨by decide +kernel, by decide +kernel⟩, lw_in2 196 rfl, lw_in7 15 rfl, lw_in7 16 rfl⟩
theorem lw_p71 : lw_okq (⟨"DomainHouse$Letters", "leastBelow", "(III)I"⟩, 11) := ⟨⟨by decide +kernel, by decide +kernel⟩, lw_in2 196 rfl, lw_in7 59 rfl, lw_in7 60 rfl⟩
theorem lw_p72 : lw_okq (⟨"DomainHouse$Letters", "isSplit", "(III)Z"⟩, 11) := ⟨⟨by decide +kernel, by decide +kernel⟩, lw_in2 196 rfl, lw_in7 63 rfl, lw_in7 64 rfl⟩
theorem lw_p73 : lw_okq (⟨"DomainHouse$Letters", "layBorders", "()I"⟩, 11) := ⟨⟨by decide +kernel, by decide +kernel⟩, lw_in2 196 rfl, lw_in7 81 rfl, lw_in7 82 rfl⟩
theorem lw_p74 : lw_okq (⟨"DomainHouse$Letters", "insertBorder", "(JI)V"⟩, 11) := ⟨⟨by decide +kernel, by decide +kernel⟩, lw_in2 196 rfl, lw_in7 86 rfl, lw_in7 87 rfl⟩
theorem lw_p75 : lw_okq (⟨"DomainHouse$Net", "prepare", "()V"⟩, 15) := ⟨⟨by decide +kernel, by decide +kernel⟩, lw_in2 239 rfl, lw_in7 123 rfl, lw_in7 124 rfl⟩
theorem lw_p76 : lw_okq (⟨"DomainHouse$Net", "need", "(I)V"⟩, 15) := ⟨⟨by decide +kernel, by decide +kernel⟩, lw_in2 239 rfl, lw_in7 127 rfl, lw_in7 128 rfl⟩
theorem lw_p77 : lw_okq (⟨"DomainHouse$Net", "unfold", "(I)V"⟩, 15) := ⟨⟨by decide +kernel, by decide +kernel⟩, lw_in2 239 rfl, lw_in7 132 rfl, lw_in7 133 rfl⟩
theorem lw_p78 : lw_okq (⟨"DomainHouse$Net", "figure", "(II)I"⟩, 15) := ⟨⟨by decide +kernel, by decide +kernel⟩, lw_in2 239 rfl, lw_in7 136 rfl, lw_in7 137 rfl⟩
theorem lw_p79 : lw_okq (⟨"DomainHouse$Net", "isRest", "()Z"⟩, 15) := ⟨⟨by decide +kernel, by decide +kernel⟩, lw_in2 239 rfl, lw_in7 140 rfl, lw_in7 141 rfl⟩
def lw_privs_5 : List (MethodName × Nat) := [(⟨"DomainHouse$Message", "putNumber", "(II)V"⟩, 17), (⟨"DomainHouse$Message", "putPrefix", "(II)V"⟩, 17), (⟨"DomainHouse$Message", "putAttributes", "(LDomainHouse$Route;)V"⟩, 17), (⟨"DomainHouse$Message", "putHead", "(III)V"⟩, 17), (⟨"DomainHouse$Letters", "travel", "(II)I"⟩, 11), (⟨"DomainHouse$Letters", "partnerFor", "(II)I"⟩, 11), (⟨"DomainHouse$Letters", "tieFor", "(II)I"⟩, 11), (⟨"DomainHouse$Letters", "leastBelow", "(III)I"⟩, 11), (⟨"DomainHouse$Letters", "isSplit", "(III)Z"⟩, 11), (⟨"DomainHouse$Letters", "layBorders", "()I"⟩, 11), (⟨"DomainHouse$Letters", "insertBorder", "(JI)V"⟩, 11), (⟨"DomainHouse$Net", "prepare", "()V"⟩, 15), (⟨"DomainHouse$Net", "need", "(I)V"⟩, 15), (⟨"DomainHouse$Net", "unfold", "(I)V"⟩, 15), (⟨"DomainHouse$Net", "figure", "(II)I"⟩, 15), (⟨"DomainHouse$Net", "isRest", "()Z"⟩, 15)]
theorem lw_r5 : ∀ q ∈ lw_privs_5, lw_okq q := List.forall_mem_cons.mpr ⟨lw_p64, List.forall_mem_cons.mpr ⟨lw_p65, List.forall_mem_cons.mpr ⟨lw_p66, List.forall_mem_cons.mpr ⟨lw_p67, List.forall_mem_cons.mpr ⟨lw_p68, List.forall_mem_cons.mpr ⟨lw_p69, List.forall_mem_cons.mpr ⟨lw_p70, List.forall_mem_cons.mpr ⟨lw_p71, List.forall_mem_cons.mpr ⟨lw_p72, List.forall_mem_cons.mpr ⟨lw_p73, List.forall_mem_cons.mpr ⟨lw_p74, List.forall_mem_cons.mpr ⟨lw_p75, List.forall_mem_cons.mpr ⟨lw_p76, List.forall_mem_cons.mpr ⟨lw_p77, List.forall_mem_cons.mpr ⟨lw_p78, List.forall_mem_cons.mpr ⟨lw_p79, fun _ h => absurd h List.not_mem_nil⟩⟩⟩⟩⟩⟩⟩⟩⟩⟩⟩⟩⟩⟩⟩⟩
theorem lw_p80 : lw_okq (⟨"DomainHouse$Net", "actOf", "(I)I"⟩, 15) := ⟨⟨by decide +kernel, by decide +kernel⟩, lw_in2 239 rfl, lw_in7 144 rfl, lw_in7 145 rfl⟩
theorem lw_p81 : lw_okq (⟨"DomainHouse$Net", "keepRest", "(I)V"⟩, 15) := ⟨⟨by decide +kernel, by decide +kernel⟩, lw_in2 239 rfl, lw_in7 148 rfl, lw_in7 149 rfl⟩
theorem lw_p82 : lw_okq (⟨"DomainHouse$Net", "countUp", "()V"⟩, 15) := ⟨⟨by decide +kernel, by decide +kernel⟩, lw_in2 239 rfl, lw_in7 153 rfl, lw_in7 154 rfl⟩
theorem lw_p83 : lw_okq (⟨"DomainHouse$Net", "makeRoom", "()V"⟩, 15) := ⟨⟨by decide +kernel, by decide +kernel⟩, lw_in2 239 rfl, lw_in7 173 rfl, lw_in7 174 rfl⟩
theorem lw_p84 : lw_okq (⟨"DomainHouse$Net", "spread", "()I"⟩, 15) := ⟨⟨by decide +kernel, by decide +kernel⟩, lw_in2 239 rfl, lw_in7 183 rfl, lw_in7 184 rfl⟩
theorem lw_p85 : lw_okq (⟨"DomainHouse$Net", "addNeighbours", "(II)I"⟩, 15) := ⟨⟨by decide +kernel, by decide +kernel⟩, lw_in2 239 rfl, lw_in7 188 rfl, lw_in7 189 rfl⟩
theorem lw_p86 : lw_okq (⟨"DomainHouse$Net", "leadBack", "()I"⟩, 15) := ⟨⟨by decide +kernel, by decide +kernel⟩, lw_in2 239 rfl, lw_in7 192 rfl, lw_in7 193 rfl⟩
theorem lw_p87 : lw_okq (⟨"DomainHouse$Net", "addSources", "(II)I"⟩, 15) := ⟨⟨by decide +kernel, by decide +kernel⟩, lw_in2 239 rfl, lw_in7 196 rfl, lw_in7 197 rfl⟩
theorem lw_p88 : lw_okq (⟨"DomainHouseModel", "prefixOf", "(II)I"⟩, 126) := ⟨⟨by decide +kernel, by decide +kernel⟩, lw_in7 224 rfl, lw_in7 222 rfl, lw_in7 223 rfl⟩
theorem lw_p89 : lw_okq (⟨"DomainHouseModel", "isDomain", "(I)Z"⟩, 126) := ⟨⟨by decide +kernel, by decide +kernel⟩, lw_in7 224 rfl, lw_in7 236 rfl, lw_in7 237 rfl⟩
theorem lw_p90 : lw_okq (⟨"DomainHouseModel", "tieOf", "(II)I"⟩, 126) := ⟨⟨by decide +kernel, by decide +kernel⟩, lw_in7 224 rfl, lw_in8 0 rfl, lw_in8 1 rfl⟩
theorem lw_p91 : lw_okq (⟨"DomainHouseModel", "isTie", "(I)Z"⟩, 126) := ⟨⟨by decide +kernel, by decide +kernel⟩, lw_in7 224 rfl, lw_in8 8 rfl, lw_in8 9 rfl⟩
theorem lw_p92 : lw_okq (⟨"DomainHouseModel", "provides", "(II)Z"⟩, 126) := ⟨⟨by decide +kernel, by decide +kernel⟩, lw_in7 224 rfl, lw_in8 20 rfl, lw_in8 21 rfl⟩
theorem lw_p93 : lw_okq (⟨"DomainHouseModel", "rethink", "()V"⟩, 126) := ⟨⟨by decide +kernel, by decide +kernel⟩, lw_in7 224 rfl, lw_in8 36 rfl, lw_in8 37 rfl⟩
theorem lw_p94 : lw_okq (⟨"DomainHouseModel", "lookAll", "(I)V"⟩, 126) := ⟨⟨by decide +kernel, by decide +kernel⟩, lw_in7 224 rfl, lw_in8 40 rfl, lw_in8 41 rfl⟩
theorem lw_p95 : lw_okq (⟨"DomainHouseModel", "look", "(II)V"⟩, 126) := ⟨⟨by decide +kernel, by decide +kernel⟩, lw_in7 224 rfl, lw_in8 44 rfl, lw_in8 45 rfl⟩
def lw_privs_6 : List (MethodName × Nat) := [(⟨"DomainHouse$Net", "actOf", "(I)I"⟩, 15), (⟨"DomainHouse$Net", "keepRest", "(I)V"⟩, 15), (⟨"DomainHouse$Net", "countUp", "()V"⟩, 15), (⟨"DomainHouse$Net", "makeRoom", "()V"⟩, 15), (⟨"DomainHouse$Net", "spread", "()I"⟩, 15), (⟨"DomainHouse$Net", "addNeighbours", "(II)I"⟩, 15), (⟨"DomainHouse$Net", "leadBack", "()I"⟩, 15), (⟨"DomainHouse$Net", "addSources", "(II)I"⟩, 15), (⟨"DomainHouseModel", "prefixOf", "(II)I"⟩, 126), (⟨"DomainHouseModel", "isDomain", "(I)Z"⟩, 126), (⟨"DomainHouseModel", "tieOf", "(II)I"⟩, 126), (⟨"DomainHouseModel", "isTie", "(I)Z"⟩, 126), (⟨"DomainHouseModel", "provides", "(II)Z"⟩, 126), (⟨"DomainHouseModel", "rethink", "()V"⟩, 126), (⟨"DomainHouseModel", "lookAll", "(I)V"⟩, 126), (⟨"DomainHouseModel", "look", "(II)V"⟩, 126)]
theorem lw_r6 : ∀ q ∈ lw_privs_6, lw_okq q := List.forall_mem_cons.mpr ⟨lw_p80, List.forall_mem_cons.mpr ⟨lw_p81, List.forall_mem_cons.mpr ⟨lw_p82, List.forall_mem_cons.mpr ⟨lw_p83, List.forall_mem_cons.mpr ⟨lw_p84, List.forall_mem_cons.mpr ⟨lw_p85, List.forall_mem_cons.mpr ⟨lw_p86, List.forall_mem_cons.mpr ⟨lw_p87, List.forall_mem_cons.mpr ⟨lw_p88, List.forall_mem_cons.mpr ⟨lw_p89, List.forall_mem_cons.mpr ⟨lw_p90, List.forall_mem_cons.mpr ⟨lw_p91, List.forall_mem_cons.mpr ⟨lw_p92, List.forall_mem_cons.mpr ⟨lw_p93, List.forall_mem_cons.mpr ⟨lw_p94, List.forall_mem_cons.mpr ⟨lw_p95, fun _ h => absurd h List.not_mem_nil⟩⟩⟩⟩⟩⟩⟩⟩⟩⟩⟩⟩⟩⟩⟩⟩
theorem lw_p96 : lw_okq (⟨"DomainHouseModel", "pick", "(II)I"⟩, 126) := ⟨⟨by decide +kernel, by decide +kernel⟩, lw_in7 224 rfl, lw_in8 48 rfl, lw_in8 49 rfl⟩
theorem lw_p97 : lw_okq (⟨"DomainHouseModel", "candidates", "(II)V"⟩, 126) := ⟨⟨by decide +kernel, by decide +kernel⟩, lw_in7 224 rfl, lw_in8 52 rfl, lw_in8 53 rfl⟩
theorem lw_p98 : lw_okq (⟨"DomainHouseModel", "isAt", "(II)Z"⟩, 126) := ⟨⟨by decide +kernel, by decide +kernel⟩, lw_in7 224 rfl, lw_in8 56 rfl, lw_in8 57 rfl⟩
theorem lw_p99 : lw_okq (⟨"DomainHouseModel", "candidate", "(III)I"⟩, 126) := ⟨⟨by decide +kernel, by decide +kernel⟩, lw_in7 224 rfl, lw_in8 60 rfl, lw_in8 61 rfl⟩
theorem lw_p100 : lw_okq (⟨"DomainHouseModel", "sideOf", "(II)I"⟩, 126) := ⟨⟨by decide +kernel, by decide +kernel⟩, lw_in7 224 rfl, lw_in8 64 rfl, lw_in8 65 rfl⟩
theorem lw_p101 : lw_okq (⟨"DomainHouseModel", "nothing", "(I)V"⟩, 126) := ⟨⟨by decide +kernel, by decide +kernel⟩, lw_in7 224 rfl, lw_in8 68 rfl, lw_in8 69 rfl⟩
theorem lw_p102 : lw_okq (⟨"DomainHouseModel", "isThere", "(I)Z"⟩, 126) := ⟨⟨by decide +kernel, by decide +kernel⟩, lw_in7 224 rfl, lw_in8 75 rfl, lw_in8 76 rfl⟩
theorem lw_p103 : lw_okq (⟨"DomainHouseModel", "isIn", "(II)Z"⟩, 126) := ⟨⟨by decide +kernel, by decide +kernel⟩, lw_in7 224 rfl, lw_in8 79 rfl, lw_in8 80 rfl⟩
theorem lw_p104 : lw_okq (⟨"DomainHouseModel", "copy", "(II)V"⟩, 126) := ⟨⟨by decide +kernel, by decide +kernel⟩, lw_in7 224 rfl, lw_in8 83 rfl, lw_in8 84 rfl⟩
theorem lw_p105 : lw_okq (⟨"DomainHouseModel", "partnerOf", "(II)I"⟩, 126) := ⟨⟨by decide +kernel, by decide +kernel⟩, lw_in7 224 rfl, lw_in8 87 rfl, lw_in8 88 rfl⟩
theorem lw_p106 : lw_okq (⟨"DomainHouseModel", "through", "(IIII)Z"⟩, 126) := ⟨⟨by decide +kernel, by decide +kernel⟩, lw_in7 224 rfl, lw_in8 91 rfl, lw_in8 92 rfl⟩
theorem lw_p107 : lw_okq (⟨"DomainHouseModel", "isSo", "(IIIII)Z"⟩, 126) := ⟨⟨by decide +kernel, by decide +kernel⟩, lw_in7 224 rfl, lw_in8 95 rfl, lw_in8 96 rfl⟩
theorem lw_p108 : lw_okq (⟨"DomainHouseModel", "waysMatch", "(III)Z"⟩, 126) := ⟨⟨by decide +kernel, by decide +kernel⟩, lw_in7 224 rfl, lw_in8 102 rfl, lw_in8 103 rfl⟩
theorem lw_p109 : lw_okq (⟨"DomainHouseModel", "marked", "(II)Z"⟩, 126) := ⟨⟨by decide +kernel, by decide +kernel⟩, lw_in7 224 rfl, lw_in8 106 rfl, lw_in8 107 rfl⟩
theorem lw_p110 : lw_okq (⟨"DomainHouseModel", "tieWord", "(II)I"⟩, 126) := ⟨⟨by decide +kernel, by decide +kernel⟩, lw_in7 224 rfl, lw_in8 110 rfl, lw_in8 111 rfl⟩
theorem lw_p111 : lw_okq (⟨"DomainHouseModel", "related", "(III)Z"⟩, 126) := ⟨⟨by decide +kernel, by decide +kernel⟩, lw_in7 224 rfl, lw_in8 114 rfl, lw_in8 115 rfl⟩
def lw_privs_7 : List (MethodName × Nat) := [(⟨"DomainHouseModel", "pick", "(II)I"⟩, 126), (⟨"DomainHouseModel", "candidates", "(II)V"⟩, 126), (⟨"DomainHouseModel", "isAt", "(II)Z"⟩, 126), (⟨"DomainHouseModel", "candidate", "(III)I"⟩, 126), (⟨"DomainHouseModel", "sideOf", "(II)I"⟩, 126), (⟨"DomainHouseModel", "nothing", "(I)V"⟩, 126), (⟨"DomainHouseModel", "isThere", "(I)Z"⟩, 126), (⟨"DomainHouseModel", "isIn", "(II)Z"⟩, 126), (⟨"DomainHouseModel", "copy", "(II)V"⟩, 126), (⟨"DomainHouseModel", "partnerOf", "(II)I"⟩, 126), (⟨"DomainHouseModel", "through", "(IIII)Z"⟩, 126), (⟨"DomainHouseModel", "isSo", "(IIIII)Z"⟩, 126), (⟨"DomainHouseModel", "waysMatch", "(III)Z"⟩, 126), (⟨"DomainHouseModel", "marked", "(II)Z"⟩, 126), (⟨"DomainHouseModel", "tieWord", "(II)I"⟩, 126), (⟨"DomainHouseModel", "related", "(III)Z"⟩, 126)]
theorem lw_r7 : ∀ q ∈ lw_privs_7, lw_okq q := List.forall_mem_cons.mpr ⟨lw_p96, List.forall_mem_cons.mpr ⟨lw_p97, List.forall_mem_cons.mpr ⟨lw_p98, List.forall_mem_cons.mpr ⟨lw_p99, List.forall_mem_cons.mpr ⟨lw_p100, List.forall_mem_cons.mpr ⟨lw_p101, List.forall_mem_cons.mpr ⟨lw_p102, List.forall_mem_cons.mpr ⟨lw_p103, List.forall_mem_cons.mpr ⟨lw_p104, List.forall_mem_cons.mpr ⟨lw_p105, List.forall_mem_cons.mpr ⟨lw_p106, List.forall_mem_cons.mpr ⟨lw_p107, List.forall_mem_cons.mpr ⟨lw_p108, List.forall_mem_cons.mpr ⟨lw_p109, List.forall_mem_cons.mpr ⟨lw_p110, List.forall_mem_cons.mpr ⟨lw_p111, fun _ h => absurd h List.not_mem_nil⟩⟩⟩⟩⟩⟩⟩⟩⟩⟩⟩⟩⟩⟩⟩⟩
theorem lw_p112 : lw_okq (⟨"DomainHouseModel", "judged", "(IIII)I"⟩, 126) := ⟨⟨by decide +kernel, by decide +kernel⟩, lw_in7 224 rfl, lw_in8 118 rfl, lw_in8 119 rfl⟩
theorem lw_p113 : lw_okq (⟨"DomainHouseModel", "judgedAnew", "(IIII)I"⟩, 126) := ⟨⟨by decide +kernel, by decide +kernel⟩, lw_in7 224 rfl, lw_in8 122 rfl, lw_in8 123 rfl⟩
theorem lw_p114 : lw_okq (⟨"DomainHouseModel", "addMark", "(II)V"⟩, 126) := ⟨⟨by decide +kernel, by decide +kernel⟩, lw_in7 224 rfl, lw_in8 126 rfl, lw_in8 127 rfl⟩
theorem lw_p115 : lw_okq (⟨"DomainHouseModel", "dropMark", "(II)V"⟩, 126) := ⟨⟨by decide +kernel, by decide +kernel⟩, lw_in7 224 rfl, lw_in8 130 rfl, lw_in8 131 rfl⟩
theorem lw_p116 : lw_okq (⟨"DomainHouseModel", "front", "(II)Z"⟩, 126) := ⟨⟨by decide +kernel, by decide +kernel⟩, lw_in7 224 rfl, lw_in8 134 rfl, lw_in8 135 rfl⟩
theorem lw_p117 : lw_okq (⟨"DomainHouseModel", "best", "(II)I"⟩, 126) := ⟨⟨by decide +kernel, by decide +kernel⟩, lw_in7 224 rfl, lw_in8 138 rfl, lw_in8 139 rfl⟩
theorem lw_p118 : lw_okq (⟨"DomainHouseModel", "beats", "(IIII)Z"⟩, 126) := ⟨⟨by decide +kernel, by decide +kernel⟩, lw_in7 224 rfl, lw_in8 142 rfl, lw_in8 143 rfl⟩
theorem lw_p119 : lw_okq (⟨"DomainHouseModel", "unlike", "(IIIIII)I"⟩, 126) := ⟨⟨by decide +kernel, by decide +kernel⟩, lw_in7 224 rfl, lw_in8 146 rfl, lw_in8 147 rfl⟩
theorem lw_p120 : lw_okq (⟨"DomainHouseModel", "same", "(II)Z"⟩, 126) := ⟨⟨by decide +kernel, by decide +kernel⟩, lw_in7 224 rfl, lw_in8 154 rfl, lw_in8 155 rfl⟩
theorem lw_p121 : lw_okq (⟨"DomainHouseModel", "say", "(III)V"⟩, 126) := ⟨⟨by decide +kernel, by decide +kernel⟩, lw_in7 224 rfl, lw_in8 158 rfl, lw_in8 159 rfl⟩
theorem lw_p122 : lw_okq (⟨"DomainHouseModel", "sayAll", "(II)V"⟩, 126) := ⟨⟨by decide +kernel, by decide +kernel⟩, lw_in7 224 rfl, lw_in8 162 rfl, lw_in8 163 rfl⟩
theorem lw_p123 : lw_okq (⟨"DomainHouseModel", "isPrefix", "(I)Z"⟩, 126) := ⟨⟨by decide +kernel, by decide +kernel⟩, lw_in7 224 rfl, lw_in8 170 rfl, lw_in8 171 rfl⟩
theorem lw_p124 : lw_okq (⟨"DomainHouseModel", "next", "()V"⟩, 126) := ⟨⟨by decide +kernel, by decide +kernel⟩, lw_in7 224 rfl, lw_in8 186 rfl, lw_in8 187 rfl⟩
theorem lw_p125 : lw_okq (⟨"DomainHouseModel", "byteAt", "(I)I"⟩, 126) := ⟨⟨by decide +kernel, by decide +kernel⟩, lw_in7 224 rfl, lw_in8 190 rfl, lw_in8 191 rfl⟩
theorem lw_p126 : lw_okq (⟨"DomainHouseModel", "wrong", "(I)V"⟩, 126) := ⟨⟨by decide +kernel, by decide +kernel⟩, lw_in7 224 rfl, lw_in8 226 rfl, lw_in8 227 rfl⟩
theorem lw_p127 : lw_okq (⟨"DomainHouseModel", "rowRead", "()V"⟩, 126) := ⟨⟨by decide +kernel, by decide +kernel⟩, lw_in7 224 rfl, lw_in8 230 rfl, lw_in8 231 rfl⟩
def lw_privs_8 : List (MethodName × Nat) := [(⟨"DomainHouseModel", "judged", "(IIII)I"⟩, 126), (⟨"DomainHouseModel", "judgedAnew", "(IIII)I"⟩, 126), (⟨"DomainHouseModel", "addMark", "(II)V"⟩, 126), (⟨"DomainHouseModel", "dropMark", "(II)V"⟩, 126), (⟨"DomainHouseModel", "front", "(II)Z"⟩, 126), (⟨"DomainHouseModel", "best", "(II)I"⟩, 126), (⟨"DomainHouseModel", "beats", "(IIII)Z"⟩, 126), (⟨"DomainHouseModel", "unlike", "(IIIIII)I"⟩, 126), (⟨"DomainHouseModel", "same", "(II)Z"⟩, 126), (⟨"DomainHouseModel", "say", "(III)V"⟩, 126), (⟨"DomainHouseModel", "sayAll", "(II)V"⟩, 126), (⟨"DomainHouseModel", "isPrefix", "(I)Z"⟩, 126), (⟨"DomainHouseModel", "next", "()V"⟩, 126), (⟨"DomainHouseModel", "byteAt", "(I)I"⟩, 126), (⟨"DomainHouseModel", "wrong", "(I)V"⟩, 126), (⟨"DomainHouseModel", "rowRead", "()V"⟩, 126)]
theorem lw_r8 : ∀ q ∈ lw_privs_8, lw_okq q := List.forall_mem_cons.mpr ⟨lw_p112, List.forall_mem_cons.mpr ⟨lw_p113, List.forall_mem_cons.mpr ⟨lw_p114, List.forall_mem_cons.mpr ⟨lw_p115, List.forall_mem_cons.mpr ⟨lw_p116, List.forall_mem_cons.mpr ⟨lw_p117, List.forall_mem_cons.mpr ⟨lw_p118, List.forall_mem_cons.mpr ⟨lw_p119, List.forall_mem_cons.mpr ⟨lw_p120, List.forall_mem_cons.mpr ⟨lw_p121, List.forall_mem_cons.mpr ⟨lw_p122, List.forall_mem_cons.mpr ⟨lw_p123, List.forall_mem_cons.mpr ⟨lw_p124, List.forall_mem_cons.mpr ⟨lw_p125, List.forall_mem_cons.mpr ⟨lw_p126, List.forall_mem_cons.mpr ⟨lw_p127, fun _ h => absurd h List.not_mem_nil⟩⟩⟩⟩⟩⟩⟩⟩⟩⟩⟩⟩⟩⟩⟩⟩
theorem lw_p128 : lw_okq (⟨"DomainHouseModel", "isWord", "(I)Z"⟩, 126) := ⟨⟨by decide +kernel, by decide +kernel⟩, lw_in7 224 rfl, lw_in8 234 rfl, lw_in8 235 rfl⟩
theorem lw_p129 : lw_okq (⟨"DomainHouseModel", "test", "()V"⟩, 126) := ⟨⟨by decide +kernel, by decide +kernel⟩, lw_in7 224 rfl, lw_in8 238 rfl, lw_in8 239 rfl⟩
theorem lw_p130 : lw_okq (⟨"DomainHouseModel", "addressRead", "()I"⟩, 126) := ⟨⟨by decide +kernel, by decide +kernel⟩, lw_in7 224 rfl, lw_in9 2 rfl, lw_in9 3 rfl⟩
theorem lw_p131 : lw_okq (⟨"DomainHouseModel", "within", "(II)I"⟩, 126) := ⟨⟨by decide +kernel, by decide +kernel⟩, lw_in7 224 rfl, lw_in9 6 rfl, lw_in9 7 rfl⟩
theorem lw_p132 : lw_okq (⟨"DomainHouseModel", "sign", "(I)V"⟩, 126) := ⟨⟨by decide +kernel, by decide +kernel⟩, lw_in7 224 rfl, lw_in9 10 rfl, lw_in9 11 rfl⟩
theorem lw_p133 : lw_okq (⟨"DomainHouseModel", "isSign", "(I)Z"⟩, 126) := ⟨⟨by decide +kernel, by decide +kernel⟩, lw_in7 224 rfl, lw_in9 14 rfl, lw_in9 15 rfl⟩
theorem lw_p134 : lw_okq (⟨"DomainHouseModel", "wayTest", "(I)V"⟩, 126) := ⟨⟨by decide +kernel, by decide +kernel⟩, lw_in7 224 rfl, lw_in9 18 rfl, lw_in9 19 rfl⟩
theorem lw_p135 : lw_okq (⟨"DomainHouseModel", "openLevel", "()V"⟩, 126) := ⟨⟨by decide +kernel, by decide +kernel⟩, lw_in7 224 rfl, lw_in9 22 rfl, lw_in9 23 rfl⟩
theorem lw_p136 : lw_okq (⟨"DomainHouseModel", "freshRow", "()V"⟩, 126) := ⟨⟨by decide +kernel, by decide +kernel⟩, lw_in7 224 rfl, lw_in9 26 rfl, lw_in9 27 rfl⟩
theorem lw_p137 : lw_okq (⟨"DomainHouseModel", "piece", "(JJZ)V"⟩, 126) := ⟨⟨by decide +kernel, by decide +kernel⟩, lw_in7 224 rfl, lw_in9 31 rfl, lw_in9 32 rfl⟩
theorem lw_p138 : lw_okq (⟨"DomainHouseModel", "follows", "(JJ)V"⟩, 126) := ⟨⟨by decide +kernel, by decide +kernel⟩, lw_in7 224 rfl, lw_in9 35 rfl, lw_in9 36 rfl⟩
theorem lw_p139 : lw_okq (⟨"DomainHouseModel", "endRow", "()V"⟩, 126) := ⟨⟨by decide +kernel, by decide +kernel⟩, lw_in7 224 rfl, lw_in9 39 rfl, lw_in9 40 rfl⟩
theorem lw_p140 : lw_okq (⟨"DomainHouseModel", "actRead", "()V"⟩, 126) := ⟨⟨by decide +kernel, by decide +kernel⟩, lw_in7 224 rfl, lw_in9 44 rfl, lw_in9 45 rfl⟩
theorem lw_p141 : lw_okq (⟨"DomainHouseModel", "nextEvent", "()I"⟩, 126) := ⟨⟨by decide +kernel, by decide +kernel⟩, lw_in7 224 rfl, lw_in10 235 rfl, lw_in10 236 rfl⟩
theorem lw_p142 : lw_okq (⟨"DomainHouseModel", "doEvent", "(I)V"⟩, 126) := ⟨⟨by decide +kernel, by decide +kernel⟩, lw_in7 224 rfl, lw_in11 0 rfl, lw_in11 1 rfl⟩
theorem lw_p143 : lw_okq (⟨"DomainHouseModel", "eventAt", "(I)I"⟩, 126) := ⟨⟨by decide +kernel, by decide +kernel⟩, lw_in7 224 rfl, lw_in11 4 rfl, lw_in11 5 rfl⟩
def lw_privs_9 : List (MethodName × Nat) := [(⟨"DomainHouseModel", "isWord", "(I)Z"⟩, 126), (⟨"DomainHouseModel", "test", "()V"⟩, 126), (⟨"DomainHouseModel", "addressRead", "()I"⟩, 126), (⟨"DomainHouseModel", "within", "(II)I"⟩, 126), (⟨"DomainHouseModel", "sign", "(I)V"⟩, 126), (⟨"DomainHouseModel", "isSign", "(I)Z"⟩, 126), (⟨"DomainHouseModel", "wayTest", "(I)V"⟩, 126), (⟨"DomainHouseModel", "openLevel", "()V"⟩, 126), (⟨"DomainHouseModel", "freshRow", "()V"⟩, 126), (⟨"DomainHouseModel", "piece", "(JJZ)V"⟩, 126), (⟨"DomainHouseModel", "follows", "(JJ)V"⟩, 126), (⟨"DomainHouseModel", "endRow", "()V"⟩, 126), (⟨"DomainHouseModel", "actRead", "()V"⟩, 126), (⟨"DomainHouseModel", "nextEvent", "()I"⟩, 126), (⟨"DomainHouseModel", "doEvent", "(I)V"⟩, 126), (⟨"DomainHouseModel", "eventAt", "(I)I"⟩, 126)]
theorem lw_r9 : ∀ q ∈ lw_privs_9, lw_okq q := List.forall_mem_cons.mpr ⟨lw_p128, List.forall_mem_cons.mpr ⟨lw_p129, List.forall_mem_cons.mpr ⟨lw_p130, List.forall_mem_cons.mpr ⟨lw_p131, List.forall_mem_cons.mpr ⟨lw_p132, List.forall_mem_cons.mpr ⟨lw_p133, List.forall_mem_cons.mpr ⟨lw_p134, List.forall_mem_cons.mpr ⟨lw_p135, List.forall_mem_cons.mpr ⟨lw_p136, List.forall_mem_cons.mpr ⟨lw_p137, List.forall_mem_cons.mpr ⟨lw_p138, List.forall_mem_cons.mpr ⟨lw_p139, List.forall_mem_cons.mpr ⟨lw_p140, List.forall_mem_cons.mpr ⟨lw_p141, List.forall_mem_cons.mpr ⟨lw_p142, List.forall_mem_cons.mpr ⟨lw_p143, fun _ h => absurd h List.not_mem_nil⟩⟩⟩⟩⟩⟩⟩⟩⟩⟩⟩⟩⟩⟩⟩⟩
theorem lw_p144 : lw_okq (⟨"DomainHouseModel", "number", "(II)I"⟩, 126) := ⟨⟨by decide +kernel, by decide +kernel⟩, lw_in7 224 rfl, lw_in11 33 rfl, lw_in11 34 rfl⟩
theorem lw_p145 : lw_okq (⟨"DomainHouseModel", "fails", "(II)V"⟩, 126) := ⟨⟨by decide +kernel, by decide +kernel⟩, lw_in7 224 rfl, lw_in11 37 rfl, lw_in11 38 rfl⟩
theorem lw_p146 : lw_okq (⟨"DomainHouseModel", "partOf", "(IIZ)Z"⟩, 126) := ⟨⟨by decide +kernel, by decide +kernel⟩, lw_in7 224 rfl, lw_in11 41 rfl, lw_in11 42 rfl⟩
theorem lw_p147 : lw_okq (⟨"DomainHouseModel", "attributes", "(II)V"⟩, 126) := ⟨⟨by decide +kernel, by decide +kernel⟩, lw_in7 224 rfl, lw_in11 45 rfl, lw_in11 46 rfl⟩
theorem lw_p148 : lw_okq (⟨"DomainHouseModel", "originRight", "(II)Z"⟩, 126) := ⟨⟨by decide +kernel, by decide +kernel⟩, lw_in7 224 rfl, lw_in11 49 rfl, lw_in11 50 rfl⟩
theorem lw_p149 : lw_okq (⟨"DomainHouseModel", "wayRight", "(II)Z"⟩, 126) := ⟨⟨by decide +kernel, by decide +kernel⟩, lw_in7 224 rfl, lw_in11 53 rfl, lw_in11 54 rfl⟩
theorem lw_p150 : lw_okq (⟨"DomainHouseModel", "costRight", "(II)Z"⟩, 126) := ⟨⟨by decide +kernel, by decide +kernel⟩, lw_in7 224 rfl, lw_in11 57 rfl, lw_in11 58 rfl⟩
theorem lw_p151 : lw_okq (⟨"DomainHouseModel", "marksRight", "(II)Z"⟩, 126) := ⟨⟨by decide +kernel, by decide +kernel⟩, lw_in7 224 rfl, lw_in11 61 rfl, lw_in11 62 rfl⟩
theorem lw_p152 : lw_okq (⟨"DomainHouseModel", "octet1", "(I)V"⟩, 126) := ⟨⟨by decide +kernel, by decide +kernel⟩, lw_in7 224 rfl, lw_in11 77 rfl, lw_in11 78 rfl⟩
theorem lw_p153 : lw_okq (⟨"DomainHouseModel", "prefixOut", "(I)V"⟩, 126) := ⟨⟨by decide +kernel, by decide +kernel⟩, lw_in7 224 rfl, lw_in11 81 rfl, lw_in11 82 rfl⟩
theorem lw_p154 : lw_okq (⟨"DomainHouseModel", "octet4", "(I)V"⟩, 126) := ⟨⟨by decide +kernel, by decide +kernel⟩, lw_in7 224 rfl, lw_in11 85 rfl, lw_in11 86 rfl⟩
theorem lw_p155 : lw_okq (⟨"DomainHouseModel", "goes", "(II)I"⟩, 126) := ⟨⟨by decide +kernel, by decide +kernel⟩, lw_in7 224 rfl, lw_in11 97 rfl, lw_in11 98 rfl⟩
theorem lw_p156 : lw_okq (⟨"DomainHouseModel", "sends", "(II)I"⟩, 126) := ⟨⟨by decide +kernel, by decide +kernel⟩, lw_in7 224 rfl, lw_in11 101 rfl, lw_in11 102 rfl⟩
theorem lw_p157 : lw_okq (⟨"DomainHouseModel", "nodeOf", "(II)I"⟩, 126) := ⟨⟨by decide +kernel, by decide +kernel⟩, lw_in7 224 rfl, lw_in11 125 rfl, lw_in11 126 rfl⟩
theorem lw_p158 : lw_okq (⟨"DomainHouseModel", "costOf", "(IIII)I"⟩, 126) := ⟨⟨by decide +kernel, by decide +kernel⟩, lw_in7 224 rfl, lw_in11 129 rfl, lw_in11 130 rfl⟩
theorem lw_p159 : lw_okq (⟨"DomainHouseModel", "isWished", "(II)Z"⟩, 126) := ⟨⟨by decide +kernel, by decide +kernel⟩, lw_in7 224 rfl, lw_in11 151 rfl, lw_in11 152 rfl⟩
def lw_privs_10 : List (MethodName × Nat) := [(⟨"DomainHouseModel", "number", "(II)I"⟩, 126), (⟨"DomainHouseModel", "fails", "(II)V"⟩, 126), (⟨"DomainHouseModel", "partOf", "(IIZ)Z"⟩, 126), (⟨"DomainHouseModel", "attributes", "(II)V"⟩, 126), (⟨"DomainHouseModel", "originRight", "(II)Z"⟩, 126), (⟨"DomainHouseModel", "wayRight", "(II)Z"⟩, 126), (⟨"DomainHouseModel", "costRight", "(II)Z"⟩, 126), (⟨"DomainHouseModel", "marksRight", "(II)Z"⟩, 126), (⟨"DomainHouseModel", "octet1", "(I)V"⟩, 126), (⟨"DomainHouseModel", "prefixOut", "(I)V"⟩, 126), (⟨"DomainHouseModel", "octet4", "(I)V"⟩, 126), (⟨"DomainHouseModel", "goes", "(II)I"⟩, 126), (⟨"DomainHouseModel", "sends", "(II)I"⟩, 126), (⟨"DomainHouseModel", "nodeOf", "(II)I"⟩, 126), (⟨"DomainHouseModel", "costOf", "(IIII)I"⟩, 126), (⟨"DomainHouseModel", "isWished", "(II)Z"⟩, 126)]
theorem lw_r10 : ∀ q ∈ lw_privs_10, lw_okq q := List.forall_mem_cons.mpr ⟨lw_p144, List.forall_mem_cons.mpr ⟨lw_p145, List.forall_mem_cons.mpr ⟨lw_p146, List.forall_mem_cons.mpr ⟨lw_p147, List.forall_mem_cons.mpr ⟨lw_p148, List.forall_mem_cons.mpr ⟨lw_p149, List.forall_mem_cons.mpr ⟨lw_p150, List.forall_mem_cons.mpr ⟨lw_p151, List.forall_mem_cons.mpr ⟨lw_p152, List.forall_mem_cons.mpr ⟨lw_p153, List.forall_mem_cons.mpr ⟨lw_p154, List.forall_mem_cons.mpr ⟨lw_p155, List.forall_mem_cons.mpr ⟨lw_p156, List.forall_mem_cons.mpr ⟨lw_p157, List.forall_mem_cons.mpr ⟨lw_p158, List.forall_mem_cons.mpr ⟨lw_p159, fun _ h => absurd h List.not_mem_nil⟩⟩⟩⟩⟩⟩⟩⟩⟩⟩⟩⟩⟩⟩⟩⟩
theorem lw_p160 : lw_okq (⟨"DomainHouseModel", "states", "()I"⟩, 126) := ⟨⟨by decide +kernel, by decide +kernel⟩, lw_in7 224 rfl, lw_in11 159 rfl, lw_in11 160 rfl⟩
theorem lw_p161 : lw_okq (⟨"DomainHouseModel", "isRest", "(I)Z"⟩, 126) := ⟨⟨by decide +kernel, by decide +kernel⟩, lw_in7 224 rfl, lw_in11 163 rfl, lw_in11 164 rfl⟩
theorem lw_p162 : lw_okq (⟨"DomainHouseModel", "open", "(I)V"⟩, 126) := ⟨⟨by decide +kernel, by decide +kernel⟩, lw_in7 224 rfl, lw_in11 167 rfl, lw_in11 168 rfl⟩
theorem lw_p163 : lw_okq (⟨"DomainHouseModel", "acted", "(I)I"⟩, 126) := ⟨⟨by decide +kernel, by decide +kernel⟩, lw_in7 224 rfl, lw_in11 171 rfl, lw_in11 172 rfl⟩
theorem lw_p164 : lw_okq (⟨"DomainHouseModel", "isOffered", "(I)Z"⟩, 126) := ⟨⟨by decide +kernel, by decide +kernel⟩, lw_in7 224 rfl, lw_in11 175 rfl, lw_in11 176 rfl⟩
def lw_privs_11 : List (MethodName × Nat) := [(⟨"DomainHouseModel", "states", "()I"⟩, 126), (⟨"DomainHouseModel", "isRest", "(I)Z"⟩, 126), (⟨"DomainHouseModel", "open", "(I)V"⟩, 126), (⟨"DomainHouseModel", "acted", "(I)I"⟩, 126), (⟨"DomainHouseModel", "isOffered", "(I)Z"⟩, 126)]
theorem lw_r11 : ∀ q ∈ lw_privs_11, lw_okq q := List.forall_mem_cons.mpr ⟨lw_p160, List.forall_mem_cons.mpr ⟨lw_p161, List.forall_mem_cons.mpr ⟨lw_p162, List.forall_mem_cons.mpr ⟨lw_p163, List.forall_mem_cons.mpr ⟨lw_p164, fun _ h => absurd h List.not_mem_nil⟩⟩⟩⟩⟩
def lw_privs : List (MethodName × Nat) := lw_privs_1 ++ (lw_privs_2 ++ (lw_privs_3 ++ (lw_privs_4 ++ (lw_privs_5 ++ (lw_privs_6 ++ (lw_privs_7 ++ (lw_privs_8 ++ (lw_privs_9 ++ (lw_privs_10 ++ (lw_privs_11))))))))))
def lw_tbl : List Cond := k2_sels lw_privs ++ tables_1
theorem lw_privs_ok : ∀ q ∈ lw_privs, lw_okq q := by
  show ∀ q ∈ lw_privs_1 ++ (lw_privs_2 ++ (lw_privs_3 ++ (lw_privs_4 ++ (lw_privs_5 ++ (lw_privs_6 ++ (lw_privs_7 ++ (lw_privs_8 ++ (lw_privs_9 ++ (lw_privs_10 ++ (lw_privs_11)))))))))), lw_okq q
  exact List.forall_mem_append.mpr ⟨lw_r1, List.forall_mem_append.mpr ⟨lw_r2, List.forall_mem_append.mpr ⟨lw_r3, List.forall_mem_append.mpr ⟨lw_r4, List.forall_mem_append.mpr ⟨lw_r5, List.forall_mem_append.mpr ⟨lw_r6, List.forall_mem_append.mpr ⟨lw_r7, List.forall_mem_append.mpr ⟨lw_r8, List.forall_mem_append.mpr ⟨lw_r9, List.forall_mem_append.mpr ⟨lw_r10, lw_r11⟩⟩⟩⟩⟩⟩⟩⟩⟩⟩
-- ===== end =====
end
section
/-! The layer: a whole heap above the start as one function, addresses counted from the start's size; sV: the machine at a place of a method, in these words. -/
abbrev sE : Type := (Nat × Nat × (Nat → Value)) ⊕ (Nat × List Value)
abbrev sHp : Type := Nat × (Nat → sE)
/-- launch, numbers of classes and fields, array kinds, the heap at the start, the classes' tables, the words, the script's address (in these words: retAddr) -/
abbrev sG : Type := Launch × va_G × List (ClassId × FieldType) × Heap × List vw_C × List Cond × Nat × Nat × (Nat → Int32)
abbrev sM : Type := MethodName × ByteArray × Nat × Option FieldType
abbrev sg_b (g : sG) : Nat := g.2.2.2.1.size
abbrev sg_ws (g : sG) : List Cond := g.2.2.2.2.2.1
abbrev sg_r (g : sG) : Nat × Nat := (g.2.2.2.1.size, g.2.2.2.2.2.2.1)
abbrev sg_L (g : sG) : Nat := g.2.2.2.2.2.2.2.1
abbrev sg_xs (g : sG) : Nat → Int32 := g.2.2.2.2.2.2.2.2
abbrev sg_cl (g : sG) : List vw_C := g.2.2.2.2.1
/-- addresses that are no cell of ours: 0 the script, a + 1 the address a itself -/
def rvF (b : Nat) : Nat → Nat
  | 0 => b
  | a + 1 => a
def rv (b : Nat × Nat) (v : Value) : Value := match v with
  | .ref a => .ref (b.1 + a)
  | .retAddr x => .ref (rvF b.2 x)
  | w => w
def sUp (f : Nat → sE) (a : Nat) (x : sE) : Nat → sE := fun j => if j = a then x else f j
def sAt (g : sG) (i : Nat) (x : sE) (H : Heap) : Prop := match x with
  | .inl (k, n, f) => ∃ (cA : ClassId) (ty : FieldType), g.2.2.1[k]? = some (cA, ty) ∧ H[sg_b g + i]? = some (arrV cA n (fun j => rv (sg_r g) (f j)))
  | .inr (ci, fs) => ∃ r : vw_C, (sg_cl g)[ci]? = some r ∧ t_OB (sg_b g + i) (g.2.1.1 ci) r.2.2 (g.2.1.2 ci) H (fun k => rv (sg_r g) (vp_V fs k)) ∧ ∃ cell : Cell, H[sg_b g + i]? = some cell ∧ cell.slots.size ≤ r.2.2
def sR (g : sG) (hp : sHp) (H : Heap) : Prop := H.size = sg_b g + hp.1 ∧ (∀ i, i < hp.1 → sAt g i (hp.2 i) H) ∧ ∀ q, q < sg_b g → H[q]? = g.2.2.2.1[q]?
/-- the String of the words: its address, its bytes' and a static's, kept among the numbers of fields (row 1000) -/
abbrev sg_q (g : sG) : Nat := g.2.1.2 1000 0
abbrev sg_v (g : sG) : Nat := g.2.1.2 1000 1
/-- a static that may be null: 0, or its address and one more -/
def sg_fk : Nat → Value
  | 0 => .null
  | k + 1 => .retAddr (k + 1)
abbrev sg_f (g : sG) : Value := sg_fk (g.2.1.2 1000 2)
abbrev sg_z (g : sG) : Nat := g.2.1.2 1000 3
abbrev sg_y (g : sG) : Nat := g.2.1.2 1000 4
def wsN : List Nat := [105, 102, 32, 97, 110, 100, 32, 116, 104, 101, 110, 32, 110, 111, 116, 32, 105, 110, 32, 116, 111, 32, 119, 97, 121, 32, 97, 110, 121, 32, 109, 97, 114, 107, 32, 102, 114, 111, 109, 32, 116, 105, 101, 32, 108, 101, 110, 103, 116, 104, 32, 119, 105, 115, 104, 32, 99, 111, 115, 116, 32, 111, 114, 105, 103, 105, 110, 32, 114, 105, 103, 104, 116, 32, 99, 117, 115, 116, 111, 109, 101, 114, 32, 112, 114, 111, 118, 105, 100, 101, 114, 32, 101, 113, 117, 97, 108, 32, 107, 105, 110, 32, 118, 97, 108, 105, 100, 32, 117, 110, 107, 110, 111, 119, 110, 32, 98, 97, 100, 32, 108, 101, 116, 32, 98, 97, 114, 32, 97, 100, 100, 32, 100, 114, 111, 112, 32, 109, 111, 114, 101, 32, 99, 97, 108, 108, 32]
def wsF (j : Nat) : Int32 := Int32.ofNat (wsN.getD j 0)
def sStg (g : sG) (U : State) : Prop := (∃ tx : String, vk_R "DomainHouse$Reader" 105 tx (sg_q g) U) ∧ va_O "java/lang/String" (sg_q g) (fun x => x ≠ sg_q g) U g.2.2.2.1 ∧ va_OF "java/lang/String" "coder" "B" (.int 0) (sg_q g) (fun x => x ≠ sg_q g) U g.2.2.2.1 ∧ va_OF "java/lang/String" "value" "[B" (.ref (sg_v g)) (sg_q g) (fun x => x ≠ sg_q g) U g.2.2.2.1 ∧ va_T .byte (sg_v g) 147 (fun j => .int (wsF j)) (fun x => x ≠ sg_v g) U g.2.2.2.1 ∧ va_Z "java/lang/String" "COMPACT_STRINGS" "Z" (.int 1) (fun x => x ≠ sg_z g) U g.2.2.2.1 ∧ va_Z "jdk/internal/util/Preconditions" "SIOOBE_FORMATTER" "Ljava/util/function/BiFunction;" (rv (sg_r g) (sg_f g)) (fun x => x ≠ sg_y g) U g.2.2.2.1 ∧ va_Nw (.castable "[I" "java/lang/Cloneable") U ∧ va_Nw (.castable "[J" "java/lang/Cloneable") U
def sK (g : sG) (U : State) : Prop := va_K g.2.1 (sg_cl g) g.2.2.1 U ∧ (∀ (k : Nat) (cA : ClassId) (C : String), g.2.2.1[k]? = some (cA, .object C) → va_AO C U) ∧ va_X (sg_r g).2 (sg_L g) (sg_xs g) U g.2.2.2.1 ∧ sStg g U
def sQ (g : sG) (Q : Option Value → sHp → Prop) : Array Value → State → Outcome → State → Prop := fun _ _ o t => ∃ (r : Option Value) (hp : sHp), o = .returned (r.map (rv (sg_r g))) ∧ Q r hp ∧ sR g hp t.heap ∧ sK g t
def sRm (d C S : Nat) : Room := { frames := d, cells := C, slots := S, locals := 60 * d }
def sWs (g : sG) (M : sM) : List Cond := Cond.code M.1 M.2.1 M.2.2.1 M.2.2.2 :: sg_ws g
def sX (g : sG) (M : sM) (p : Program) (s : State) (m : MethodId) (args : Array Value) (meth : Method) (c : Code) : Prop :=
  p.tables.exec = Jvm.exec ∧ c.code = M.2.1 ∧ meth.sig.returnType = M.2.2.2 ∧ c.maxLocals = M.2.2.1 ∧ s.vm.findClass M.1.cls = some m.cls ∧ (∀ w ∈ sg_ws g, w.before args s = true) ∧ sK g s ∧ meth.locks = false ∧ (M.1.cls = "DomainHouseLaw" → s.heap.size = sg_b g ∧ args = #[Value.ref (sg_r g).2]) ∧ meth.name = M.1.name
def sHas (b : Nat × Nat) (ls : Array Slot) (nL : Nat) (lv : List (Nat × Value)) : Prop := lv_has ls nL (lv.map fun q => (q.1, rv b q.2))
abbrev sZT : Type := List Frame → Array Value → State → State → Prop
def sZ (g : sG) (C S : Nat) (Q : Option Value → sHp → Prop) : sZT := fun below args s => MQ below (sQ g Q) args s C S (fun q => sg_b g ≤ q)
def sV (g : sG) (M : sM) (R : Room) (Z : sZT) (pc : Nat) (lv : List (Nat × Value)) (st : List Value) (hp : sHp) (ce sl : Nat) : Prop :=
  ∀ (p : Program) (e : Env) (s : State) (m : MethodId) (args : Array Value) (below : List Frame) (meth : Method) (c : Code) (H : Heap) (locs : List Loc) (ls : Array Slot),
    sX g M p s m args meth c → sR g hp H → (∀ q ∈ locs, sg_b g ≤ q.base) → sHas (sg_r g) ls M.2.2.1 lv →
    W p g.1 e R s m args below meth c H locs ce sl (Z below args s) (F0 m pc ls (st.map (rv (sg_r g))))
/-- a method's contract: at these arguments and this heap it returns, with Q of answer and heap -/
def sC (g : sG) (M : sM) (d C S : Nat) (av : List Value) (hp : sHp) (Q : Option Value → sHp → Prop) : Prop :=
  Met g.1 M.1 (sWs g M) (sRm d C S) (fun a U => a = (av.map (rv (sg_r g))).toArray ∧ sR g hp U.heap ∧ sK g U) (sQ g Q) C S (fun q => sg_b g ≤ q)
theorem sStg.moved {g : sG} {u U : State} (h : u.vm.Alike U.vm) (hv : ∀ tx q, vk_R "DomainHouse$Reader" 105 tx q u → vk_R "DomainHouse$Reader" 105 tx q U) (hc : ∀ C T, va_Nw (.castable C T) u → va_Nw (.castable C T) U) (k : sStg g u) : sStg g U :=
  ⟨k.1.elim fun tx q => ⟨tx, hv _ _ q⟩, k.2.1.moved h, k.2.2.1.moved h, k.2.2.2.1.moved h, k.2.2.2.2.1.moved h, k.2.2.2.2.2.1.moved h, k.2.2.2.2.2.2.1.moved h, hc _ _ k.2.2.2.2.2.2.2.1, hc _ _ k.2.2.2.2.2.2.2.2⟩
theorem sK.warm {g : sG} {u U : State} (h : u.WarmedH U.vm) (k : sK g u) : sK g U := ⟨va_K.moved h.alike k.1, fun i cA C hq => va_AO.moved h.alike (k.2.1 i cA C hq), va_X.moved h.alike k.2.2.1, sStg.moved h.alike (fun _ _ q => q.warm h) (fun _ _ q => q.warmC h) k.2.2.2⟩
theorem sK.same {g : sG} {u U : State} (e : U.vm = u.vm) (k : sK g u) : sK g U := have h : u.vm.Alike U.vm := e ▸ Vm.Alike.refl u.vm; ⟨va_K.moved h k.1, fun i cA C hq => va_AO.moved h (k.2.1 i cA C hq), va_X.moved h k.2.2.1, sStg.moved h (fun _ _ q => q.same e) (fun _ _ q => va_tabs rfl e.symm q) k.2.2.2⟩
/-! locals by name -/
def sGet (i : Nat) : List (Nat × Value) → Option Value
  | [] => none
  | q :: l => if q.1 = i then some q.2 else sGet i l
theorem sGet_mem {i : Nat} {v : Value} : ∀ {l : List (Nat × Value)}, sGet i l = some v → (i, v) ∈ l
  | [], h => by simp [sGet] at h
  | q :: l, h => by
    simp only [sGet] at h
    split at h
    next e => cases h; subst e; exact List.mem_cons_self
    next => exact List.mem_cons_of_mem _ (sGet_mem h)
theorem sHas.get {b : Nat × Nat} {nL i : Nat} {ls : Array Slot} {lv : List (Nat × Value)} {v : Value} (h : sHas b ls nL lv) (hk : sGet i lv = some v) : ls[i]? = some (.val (rv b v)) :=
  h.2.2 (i, rv b v) (List.mem_map.mpr ⟨(i, v), sGet_mem hk, rfl⟩)
def sSet (i : Nat) (v : Value) (lv : List (Nat × Value)) : List (Nat × Value) := (i, v) :: lv.filter (fun q => !(q.1 == i) && !(q.1 + 1 == i && q.2.category == 2))
def sSetL (i : Nat) (v : Value) (lv : List (Nat × Value)) : List (Nat × Value) := (i, v) :: lv.filter (fun q => !(q.1 == i) && (!(q.1 == i + 1) && !(q.1 + 1 == i && q.2.category == 2)))
theorem sGet_new {i : Nat} {v : Value} {lv : List (Nat × Value)} : sGet i (sSet i v lv) = some v := by simp [sGet, sSet]
theorem sGet_filter {j : Nat} {w : Value} {p : Nat × Value → Bool} (hp : p (j, w) = true) : ∀ {lv : List (Nat × Value)}, sGet j lv = some w → sGet j (lv.filter p) = some w
  | [], h => by simp [sGet] at h
  | q :: l, h => by
    simp only [sGet] at h
    split at h
    next e =>
      cases h
      obtain ⟨a, b⟩ := q
      have e : a = j := e
      subst e
      simp [List.filter, hp, sGet]
    next e =>
      simp only [List.filter]
      split
      · simp only [sGet, if_neg e]; exact sGet_filter hp h
      · exact sGet_filter hp h
theorem sGet_keep {i j : Nat} {v w : Value} {lv : List (Nat × Value)} (h : sGet j lv = some w) (hne : j ≠ i) (hc : w.category = 1 := by rfl) : sGet j (sSet i v lv) = some w := by
  simp only [sSet, sGet, if_neg (Ne.symm hne)]
  exact sGet_filter (by simp [hne, hc]) h
theorem rv_cat (b : Nat × Nat) (v : Value) : (rv b v).category = v.category := by cases v <;> rfl
theorem sSet_map (b : Nat × Nat) (i : Nat) (v : Value) (lv : List (Nat × Value)) : (i, rv b v) :: (lv.map fun q => (q.1, rv b q.2)).filter (fun q => !(q.1 == i) && !(q.1 + 1 == i && q.2.category == 2)) = (sSet i v lv).map fun q => (q.1, rv b q.2) := by
  simp only [sSet, List.map_cons, List.filter_map, Function.comp_def, rv_cat]
theorem sSetL_map (b : Nat × Nat) (i : Nat) (v : Value) (lv : List (Nat × Value)) : (i, rv b v) :: (lv.map fun q => (q.1, rv b q.2)).filter (fun q => !(q.1 == i) && (!(q.1 == i + 1) && !(q.1 + 1 == i && q.2.category == 2))) = (sSetL i v lv).map fun q => (q.1, rv b q.2) := by
  simp only [sSetL, List.map_cons, List.filter_map, Function.comp_def, rv_cat]
/-! a method's contract out of its walk -/
theorem sArgs_map (b : Nat × Nat) : ∀ (i : Nat) (vs : List Value), lv_args i (vs.map (rv b)) = (lv_args i vs).map fun q => (q.1, rv b q.2)
  | _, [] => rfl
  | i, v :: vs => by simp only [List.map_cons, lv_args, rv_cat, sArgs_map b _ vs]
theorem sSl_len (b : Nat × Nat) (vs : List Value) : (lg_sl (vs.map (rv b))).length = (lg_sl vs).length := by
  induction vs with
  | nil => rfl
  | cons v vs ih =>
    simp only [lg_sl, List.map_cons, List.flatMap_cons, List.length_append, rv_cat] at ih ⊢
    rw [ih]
    split <;> rfl
theorem sC.of {g : sG} {M : sM} {d C S : Nat} {av : List Value} {hp : sHp} {Q : Option Value → sHp → Prop} (hy : plainName M.1.cls = true) (hL : M.1.cls ≠ "DomainHouseLaw") (hn : (lg_sl av).length ≤ M.2.2.1)
    (h : sV g M (sRm d C S) (sZ g C S Q) 0 (lv_args 0 av) [] hp 0 0) : sC g M d C S av hp Q := by
  refine Met.ofW (cc := M.2.1) (maxL := M.2.2.1) (ret := M.2.2.2) hy rfl ?_
  intro p e s m args below meth c s₁ B hml hv
  obtain ⟨rfl, hR, hK⟩ := hv
  have hts := atoms_spec (ws := sWs g M) B.pre
  have hl := lv_entry (av.map (rv (sg_r g))) (n := M.2.2.1) (by rw [sSl_len]; exact hn)
  rw [sArgs_map] at hl
  have hnm := name_of_methodNamed B.named B.method
  rw [lg_entry_eq]
  exact h p e s m _ below meth c s.heap [] _ ⟨B.exec, B.bytes, B.returns, hml, findClass_of_methodNamed B.named, fun w hw => hts w (List.mem_cons_of_mem _ hw), hK, B.notSynchronized, fun h => absurd h hL, hnm.1⟩ hR (fun _ h => by cases h) hl
theorem sC.weak {g : sG} {M : sM} {d C S : Nat} {av : List Value} {hp : sHp} {Q Q' : Option Value → sHp → Prop} (h : sC g M d C S av hp Q) (hq : ∀ r hp', Q r hp' → Q' r hp') : sC g M d C S av hp Q' := by
  intro p e ha hc hk s m args below hf h1 h2 h3
  obtain ⟨t, o, a1, a2, a3, ⟨⟨r, hp', b1, b2, b3⟩, a4⟩⟩ := h p e ha hc hk s m args below hf h1 h2 h3
  exact ⟨t, o, a1, a2, a3, ⟨⟨r, hp', b1, hq _ _ b2, b3⟩, a4⟩⟩
end
section
section SVR
variable {g : sG} {M : sM} {R : Room} {Z : sZT} {pc : Nat} {lv : List (Nat × Value)} {st : List Value} {hp : sHp} {ce sl : Nat}
theorem sv_iconst {n : Int} {v : Int32} (hd : decode M.2.1 pc = .ok (.iconst n, 1)) (hv : Int32.ofInt n = v) (k : sV g M R Z (pc + 1) lv (.int v :: st) hp ce sl) : sV g M R Z (pc) lv (st) hp ce sl := fun p e s m args below meth c H locs ls X r hl h => lv_iconst X.1 X.2.1 hd hv (k p e s m args below meth c H locs ls X r hl h)
theorem sv_bipush {n : Int} {v : Int32} (hd : decode M.2.1 pc = .ok (.bipush n, 2)) (hv : (Int8.ofInt n).toInt32 = v) (k : sV g M R Z (pc + 2) lv (.int v :: st) hp ce sl) : sV g M R Z (pc) lv (st) hp ce sl := fun p e s m args below meth c H locs ls X r hl h => lv_bipush X.1 X.2.1 hd hv (k p e s m args below meth c H locs ls X r hl h)
theorem sv_sipush {n : Int} {v : Int32} (hd : decode M.2.1 pc = .ok (.sipush n, 3)) (hv : (Int16.ofInt n).toInt32 = v) (k : sV g M R Z (pc + 3) lv (.int v :: st) hp ce sl) : sV g M R Z (pc) lv (st) hp ce sl := fun p e s m args below meth c H locs ls X r hl h => lv_sipush X.1 X.2.1 hd hv (k p e s m args below meth c H locs ls X r hl h)
theorem sv_lconst {n : Fin 2} {v : Int64} (hd : decode M.2.1 pc = .ok (.lconst n, 1)) (hv : Int64.ofNat (n : Nat) = v) (k : sV g M R Z (pc + 1) lv (.long v :: st) hp ce sl) : sV g M R Z (pc) lv (st) hp ce sl := fun p e s m args below meth c H locs ls X r hl h => lv_lconst X.1 X.2.1 hd hv (k p e s m args below meth c H locs ls X r hl h)
theorem sv_iload_n {q : Fin 4} {i : Nat} {x : Int32} (hd : decode M.2.1 pc = .ok (.iload_n q, 1)) (hi : (q : Nat) = i) (hg : sGet i lv = some (.int x)) (k : sV g M R Z (pc + 1) lv (.int x :: st) hp ce sl) : sV g M R Z (pc) lv (st) hp ce sl := fun p e s m args below meth c H locs ls X r hl h => lv_iload_n X.1 X.2.1 hd hi (h.get hg) (k p e s m args below meth c H locs ls X r hl h)
theorem sv_iload {i : Nat} {x : Int32} (hd : decode M.2.1 pc = .ok (.iload i, 2)) (hg : sGet i lv = some (.int x)) (k : sV g M R Z (pc + 2) lv (.int x :: st) hp ce sl) : sV g M R Z (pc) lv (st) hp ce sl := fun p e s m args below meth c H locs ls X r hl h => lv_iload X.1 X.2.1 hd (h.get hg) (k p e s m args below meth c H locs ls X r hl h)
theorem sv_istore_n {q : Fin 4} {i : Nat} {x : Int32} (hd : decode M.2.1 pc = .ok (.istore_n q, 1)) (hi : (q : Nat) = i) (hn : i < M.2.2.1) (k : sV g M R Z (pc + 1) (sSet i (.int x) lv) (st) hp ce sl) : sV g M R Z (pc) lv (.int x :: st) hp ce sl := fun p e s m args below meth c H locs ls X r hl h => lv_istore_n X.1 X.2.1 hd hi h hn (sSet_map (sg_r g) i (.int x) lv) (fun ls h => (k p e s m args below meth c H locs ls X r hl h))
theorem sv_istore {i : Nat} {x : Int32} (hd : decode M.2.1 pc = .ok (.istore i, 2)) (hn : i < M.2.2.1) (k : sV g M R Z (pc + 2) (sSet i (.int x) lv) (st) hp ce sl) : sV g M R Z (pc) lv (.int x :: st) hp ce sl := fun p e s m args below meth c H locs ls X r hl h => lv_istore X.1 X.2.1 hd h hn (sSet_map (sg_r g) i (.int x) lv) (fun ls h => (k p e s m args below meth c H locs ls X r hl h))
theorem sv_lload_n {q : Fin 4} {i : Nat} {x : Int64} (hd : decode M.2.1 pc = .ok (.lload_n q, 1)) (hi : (q : Nat) = i) (hg : sGet i lv = some (.long x)) (k : sV g M R Z (pc + 1) lv (.long x :: st) hp ce sl) : sV g M R Z (pc) lv (st) hp ce sl := fun p e s m args below meth c H locs ls X r hl h => lv_lload_n X.1 X.2.1 hd hi (h.get hg) (k p e s m args below meth c H locs ls X r hl h)
theorem sv_lload {i : Nat} {x : Int64} (hd : decode M.2.1 pc = .ok (.lload i, 2)) (hg : sGet i lv = some (.long x)) (k : sV g M R Z (pc + 2) lv (.long x :: st) hp ce sl) : sV g M R Z (pc) lv (st) hp ce sl := fun p e s m args below meth c H locs ls X r hl h => lv_lload X.1 X.2.1 hd (h.get hg) (k p e s m args below meth c H locs ls X r hl h)
theorem sv_lstore_n {q : Fin 4} {i : Nat} {x : Int64} (hd : decode M.2.1 pc = .ok (.lstore_n q, 1)) (hi : (q : Nat) = i) (hn : i + 1 < M.2.2.1) (k : sV g M R Z (pc + 1) (sSetL i (.long x) lv) (st) hp ce sl) : sV g M R Z (pc) lv (.long x :: st) hp ce sl := fun p e s m args below meth c H locs ls X r hl h => lv_lstore_n X.1 X.2.1 hd hi h hn (sSetL_map (sg_r g) i (.long x) lv) (fun ls h => (k p e s m args below meth c H locs ls X r hl h))
theorem sv_lstore {i : Nat} {x : Int64} (hd : decode M.2.1 pc = .ok (.lstore i, 2)) (hn : i + 1 < M.2.2.1) (k : sV g M R Z (pc + 2) (sSetL i (.long x) lv) (st) hp ce sl) : sV g M R Z (pc) lv (.long x :: st) hp ce sl := fun p e s m args below meth c H locs ls X r hl h => lv_lstore X.1 X.2.1 hd h hn (sSetL_map (sg_r g) i (.long x) lv) (fun ls h => (k p e s m args below meth c H locs ls X r hl h))
theorem sv_aload_n {q : Fin 4} {i : Nat} {x : Nat} (hd : decode M.2.1 pc = .ok (.aload_n q, 1)) (hi : (q : Nat) = i) (hg : sGet i lv = some (.ref x)) (k : sV g M R Z (pc + 1) lv (.ref x :: st) hp ce sl) : sV g M R Z (pc) lv (st) hp ce sl := fun p e s m args below meth c H locs ls X r hl h => lv_aload_n X.1 X.2.1 hd hi (h.get hg) (k p e s m args below meth c H locs ls X r hl h)
theorem sv_aload {i : Nat} {x : Nat} (hd : decode M.2.1 pc = .ok (.aload i, 2)) (hg : sGet i lv = some (.ref x)) (k : sV g M R Z (pc + 2) lv (.ref x :: st) hp ce sl) : sV g M R Z (pc) lv (st) hp ce sl := fun p e s m args below meth c H locs ls X r hl h => lv_aload X.1 X.2.1 hd (h.get hg) (k p e s m args below meth c H locs ls X r hl h)
theorem sv_astore_n {q : Fin 4} {i : Nat} {x : Nat} (hd : decode M.2.1 pc = .ok (.astore_n q, 1)) (hi : (q : Nat) = i) (hn : i < M.2.2.1) (k : sV g M R Z (pc + 1) (sSet i (.ref x) lv) (st) hp ce sl) : sV g M R Z (pc) lv (.ref x :: st) hp ce sl := fun p e s m args below meth c H locs ls X r hl h => lv_astore_n X.1 X.2.1 hd hi h hn (sSet_map (sg_r g) i (.ref x) lv) (fun ls h => (k p e s m args below meth c H locs ls X r hl h))
theorem sv_astore {i : Nat} {x : Nat} (hd : decode M.2.1 pc = .ok (.astore i, 2)) (hn : i < M.2.2.1) (k : sV g M R Z (pc + 2) (sSet i (.ref x) lv) (st) hp ce sl) : sV g M R Z (pc) lv (.ref x :: st) hp ce sl := fun p e s m args below meth c H locs ls X r hl h => lv_astore X.1 X.2.1 hd h hn (sSet_map (sg_r g) i (.ref x) lv) (fun ls h => (k p e s m args below meth c H locs ls X r hl h))
theorem sv_iinc {i : Nat} {n : Int} {x v : Int32} (hd : decode M.2.1 pc = .ok (.iinc i n, 3)) (hg : sGet i lv = some (.int x)) (hv : x + Int32.ofInt n = v) (hn : i < M.2.2.1) (k : sV g M R Z (pc + 3) (sSet i (.int v) lv) (st) hp ce sl) : sV g M R Z (pc) lv (st) hp ce sl := fun p e s m args below meth c H locs ls X r hl h =>  (by
  obtain ⟨j, hj⟩ := List.getElem?_of_mem (List.mem_map.mpr ⟨(i, Value.int x), sGet_mem hg, rfl⟩ : (i, rv (sg_r g) (.int x)) ∈ lv.map fun q => (q.1, rv (sg_r g) q.2))
  exact lv_iinc X.1 X.2.1 hd h hj hv hn (sSet_map (sg_r g) i (.int v) lv) (fun ls h => (k p e s m args below meth c H locs ls X r hl h)))
theorem sv_iadd {x y : Int32} (hd : decode M.2.1 pc = .ok (.iadd, 1)) (k : sV g M R Z (pc + 1) lv (.int (x + y) :: st) hp ce sl) : sV g M R Z (pc) lv (.int y :: .int x :: st) hp ce sl := fun p e s m args below meth c H locs ls X r hl h => lv_iadd X.1 X.2.1 hd (k p e s m args below meth c H locs ls X r hl h)
theorem sv_isub {x y : Int32} (hd : decode M.2.1 pc = .ok (.isub, 1)) (k : sV g M R Z (pc + 1) lv (.int (x - y) :: st) hp ce sl) : sV g M R Z (pc) lv (.int y :: .int x :: st) hp ce sl := fun p e s m args below meth c H locs ls X r hl h => lv_isub X.1 X.2.1 hd (k p e s m args below meth c H locs ls X r hl h)
theorem sv_imul {x y : Int32} (hd : decode M.2.1 pc = .ok (.imul, 1)) (k : sV g M R Z (pc + 1) lv (.int (x * y) :: st) hp ce sl) : sV g M R Z (pc) lv (.int y :: .int x :: st) hp ce sl := fun p e s m args below meth c H locs ls X r hl h => lv_imul X.1 X.2.1 hd (k p e s m args below meth c H locs ls X r hl h)
theorem sv_iand {x y : Int32} (hd : decode M.2.1 pc = .ok (.iand, 1)) (k : sV g M R Z (pc + 1) lv (.int (x &&& y) :: st) hp ce sl) : sV g M R Z (pc) lv (.int y :: .int x :: st) hp ce sl := fun p e s m args below meth c H locs ls X r hl h => lv_iand X.1 X.2.1 hd (k p e s m args below meth c H locs ls X r hl h)
theorem sv_ior {x y : Int32} (hd : decode M.2.1 pc = .ok (.ior, 1)) (k : sV g M R Z (pc + 1) lv (.int (x ||| y) :: st) hp ce sl) : sV g M R Z (pc) lv (.int y :: .int x :: st) hp ce sl := fun p e s m args below meth c H locs ls X r hl h => lv_ior X.1 X.2.1 hd (k p e s m args below meth c H locs ls X r hl h)
theorem sv_ixor {x y : Int32} (hd : decode M.2.1 pc = .ok (.ixor, 1)) (k : sV g M R Z (pc + 1) lv (.int (x ^^^ y) :: st) hp ce sl) : sV g M R Z (pc) lv (.int y :: .int x :: st) hp ce sl := fun p e s m args below meth c H locs ls X r hl h => lv_ixor X.1 X.2.1 hd (k p e s m args below meth c H locs ls X r hl h)
theorem sv_ishl {x y : Int32} (hd : decode M.2.1 pc = .ok (.ishl, 1)) (k : sV g M R Z (pc + 1) lv (.int (x <<< (y &&& 31)) :: st) hp ce sl) : sV g M R Z (pc) lv (.int y :: .int x :: st) hp ce sl := fun p e s m args below meth c H locs ls X r hl h => lv_ishl X.1 X.2.1 hd (k p e s m args below meth c H locs ls X r hl h)
theorem sv_ishr {x y : Int32} (hd : decode M.2.1 pc = .ok (.ishr, 1)) (k : sV g M R Z (pc + 1) lv (.int (x >>> (y &&& 31)) :: st) hp ce sl) : sV g M R Z (pc) lv (.int y :: .int x :: st) hp ce sl := fun p e s m args below meth c H locs ls X r hl h => lv_ishr X.1 X.2.1 hd (k p e s m args below meth c H locs ls X r hl h)
theorem sv_ineg {x : Int32} (hd : decode M.2.1 pc = .ok (.ineg, 1)) (k : sV g M R Z (pc + 1) lv (.int (-x) :: st) hp ce sl) : sV g M R Z (pc) lv (.int x :: st) hp ce sl := fun p e s m args below meth c H locs ls X r hl h => lv_ineg X.1 X.2.1 hd (k p e s m args below meth c H locs ls X r hl h)
theorem sv_idiv {x y : Int32} (hd : decode M.2.1 pc = .ok (.idiv, 1)) (hne : ¬ y = 0) (k : sV g M R Z (pc + 1) lv (.int (x / y) :: st) hp ce sl) : sV g M R Z (pc) lv (.int y :: .int x :: st) hp ce sl := fun p e s m args below meth c H locs ls X r hl h => lv_idiv X.1 X.2.1 hd hne (k p e s m args below meth c H locs ls X r hl h)
theorem sv_irem {x y : Int32} (hd : decode M.2.1 pc = .ok (.irem, 1)) (hne : ¬ y = 0) (k : sV g M R Z (pc + 1) lv (.int (x - x / y * y) :: st) hp ce sl) : sV g M R Z (pc) lv (.int y :: .int x :: st) hp ce sl := fun p e s m args below meth c H locs ls X r hl h => lv_irem X.1 X.2.1 hd hne (k p e s m args below meth c H locs ls X r hl h)
theorem sv_ladd {x y : Int64} (hd : decode M.2.1 pc = .ok (.ladd, 1)) (k : sV g M R Z (pc + 1) lv (.long (x + y) :: st) hp ce sl) : sV g M R Z (pc) lv (.long y :: .long x :: st) hp ce sl := fun p e s m args below meth c H locs ls X r hl h => lv_ladd X.1 X.2.1 hd (k p e s m args below meth c H locs ls X r hl h)
theorem sv_lsub {x y : Int64} (hd : decode M.2.1 pc = .ok (.lsub, 1)) (k : sV g M R Z (pc + 1) lv (.long (x - y) :: st) hp ce sl) : sV g M R Z (pc) lv (.long y :: .long x :: st) hp ce sl := fun p e s m args below meth c H locs ls X r hl h => lv_lsub X.1 X.2.1 hd (k p e s m args below meth c H locs ls X r hl h)
theorem sv_land {x y : Int64} (hd : decode M.2.1 pc = .ok (.land, 1)) (k : sV g M R Z (pc + 1) lv (.long (x &&& y) :: st) hp ce sl) : sV g M R Z (pc) lv (.long y :: .long x :: st) hp ce sl := fun p e s m args below meth c H locs ls X r hl h => lv_land X.1 X.2.1 hd (k p e s m args below meth c H locs ls X r hl h)
theorem sv_lor {x y : Int64} (hd : decode M.2.1 pc = .ok (.lor, 1)) (k : sV g M R Z (pc + 1) lv (.long (x ||| y) :: st) hp ce sl) : sV g M R Z (pc) lv (.long y :: .long x :: st) hp ce sl := fun p e s m args below meth c H locs ls X r hl h => lv_lor X.1 X.2.1 hd (k p e s m args below meth c H locs ls X r hl h)
theorem sv_iushr {x y v : Int32} (hd : decode M.2.1 pc = .ok (.iushr, 1)) (hv : (x.toUInt32 >>> (y.toUInt32 &&& Int32.toUInt32 31)).toInt32 = v) (k : sV g M R Z (pc + 1) lv (.int v :: st) hp ce sl) : sV g M R Z (pc) lv (.int y :: .int x :: st) hp ce sl := fun p e s m args below meth c H locs ls X r hl h => lv_iushr X.1 X.2.1 hd hv (k p e s m args below meth c H locs ls X r hl h)
theorem sv_lushr {x v : Int64} {y : Int32} (hd : decode M.2.1 pc = .ok (.lushr, 1)) (hv : (x.toUInt64 >>> (y.toInt64.toUInt64 &&& Int64.toUInt64 63)).toInt64 = v) (k : sV g M R Z (pc + 1) lv (.long v :: st) hp ce sl) : sV g M R Z (pc) lv (.int y :: .long x :: st) hp ce sl := fun p e s m args below meth c H locs ls X r hl h => lv_lushr X.1 X.2.1 hd hv (k p e s m args below meth c H locs ls X r hl h)
theorem sv_lshl {x v : Int64} {y : Int32} (hd : decode M.2.1 pc = .ok (.lshl, 1)) (hv : x <<< (y.toInt64 &&& 63) = v) (k : sV g M R Z (pc + 1) lv (.long v :: st) hp ce sl) : sV g M R Z (pc) lv (.int y :: .long x :: st) hp ce sl := fun p e s m args below meth c H locs ls X r hl h => lv_lshl X.1 X.2.1 hd hv (k p e s m args below meth c H locs ls X r hl h)
theorem sv_lshr {x v : Int64} {y : Int32} (hd : decode M.2.1 pc = .ok (.lshr, 1)) (hv : x >>> (y.toInt64 &&& 63) = v) (k : sV g M R Z (pc + 1) lv (.long v :: st) hp ce sl) : sV g M R Z (pc) lv (.int y :: .long x :: st) hp ce sl := fun p e s m args below meth c H locs ls X r hl h => lv_lshr X.1 X.2.1 hd hv (k p e s m args below meth c H locs ls X r hl h)
theorem sv_i2l {x : Int32} {v : Int64} (hd : decode M.2.1 pc = .ok (.i2l, 1)) (hv : x.toInt64 = v) (k : sV g M R Z (pc + 1) lv (.long v :: st) hp ce sl) : sV g M R Z (pc) lv (.int x :: st) hp ce sl := fun p e s m args below meth c H locs ls X r hl h => lv_i2l X.1 X.2.1 hd hv (k p e s m args below meth c H locs ls X r hl h)
theorem sv_l2i {x : Int64} {v : Int32} (hd : decode M.2.1 pc = .ok (.l2i, 1)) (hv : x.toInt32 = v) (k : sV g M R Z (pc + 1) lv (.int v :: st) hp ce sl) : sV g M R Z (pc) lv (.long x :: st) hp ce sl := fun p e s m args below meth c H locs ls X r hl h => lv_l2i X.1 X.2.1 hd hv (k p e s m args below meth c H locs ls X r hl h)
theorem sv_i2b {x v : Int32} (hd : decode M.2.1 pc = .ok (.i2b, 1)) (hv : x.toInt8.toInt32 = v) (k : sV g M R Z (pc + 1) lv (.int v :: st) hp ce sl) : sV g M R Z (pc) lv (.int x :: st) hp ce sl := fun p e s m args below meth c H locs ls X r hl h => lv_i2b X.1 X.2.1 hd hv (k p e s m args below meth c H locs ls X r hl h)
theorem sv_lcmp {x y : Int64} (hd : decode M.2.1 pc = .ok (.lcmp, 1)) (k : sV g M R Z (pc + 1) lv (.int (lg_cmp x y) :: st) hp ce sl) : sV g M R Z (pc) lv (.long y :: .long x :: st) hp ce sl := fun p e s m args below meth c H locs ls X r hl h => W.lcmp X.1 X.2.1 hd (k p e s m args below meth c H locs ls X r hl h)
theorem sv_dup {x : Value} (hd : decode M.2.1 pc = .ok (.dup, 1)) (hc : x.category = 1) (k : sV g M R Z (pc + 1) lv (x :: x :: st) hp ce sl) : sV g M R Z (pc) lv (x :: st) hp ce sl := fun p e s m args below meth c H locs ls X r hl h => lv_dup X.1 X.2.1 hd ((rv_cat _ _).trans hc) (k p e s m args below meth c H locs ls X r hl h)
theorem sv_pop {x : Value} (hd : decode M.2.1 pc = .ok (.pop, 1)) (hc : x.category = 1) (k : sV g M R Z (pc + 1) lv (st) hp ce sl) : sV g M R Z (pc) lv (x :: st) hp ce sl := fun p e s m args below meth c H locs ls X r hl h => lv_pop X.1 X.2.1 hd ((rv_cat _ _).trans hc) (k p e s m args below meth c H locs ls X r hl h)
theorem sv_dup2 {x y : Value} (hd : decode M.2.1 pc = .ok (.dup2, 1)) (hc : x.category = 1) (hc2 : y.category = 1) (k : sV g M R Z (pc + 1) lv (x :: y :: x :: y :: st) hp ce sl) : sV g M R Z (pc) lv (x :: y :: st) hp ce sl := fun p e s m args below meth c H locs ls X r hl h => lv_dup2_11 X.1 X.2.1 hd ((rv_cat _ _).trans hc) ((rv_cat _ _).trans hc2) (k p e s m args below meth c H locs ls X r hl h)
theorem sv_if_eq {x : Int32} {off : Int} {tgt : Nat} (hd : decode M.2.1 pc = .ok (.ifCond .eq off, 3)) (ht : (pc : Int) + off = (tgt : Int)) (kt : x = 0 → sV g M R Z (tgt) lv (st) hp ce sl) (kf : ¬ (x = 0) → sV g M R Z (pc + 3) lv (st) hp ce sl) : sV g M R Z (pc) lv (.int x :: st) hp ce sl := fun p e s m args below meth c H locs ls X r hl h => lv_if_eq X.1 X.2.1 hd ht (fun z => kt z p e s m args below meth c H locs ls X r hl h) (fun z => kf z p e s m args below meth c H locs ls X r hl h)
theorem sv_icmp_eq {x y : Int32} {off : Int} {tgt : Nat} (hd : decode M.2.1 pc = .ok (.if_icmp .eq off, 3)) (ht : (pc : Int) + off = (tgt : Int)) (kt : x = y → sV g M R Z (tgt) lv (st) hp ce sl) (kf : ¬ (x = y) → sV g M R Z (pc + 3) lv (st) hp ce sl) : sV g M R Z (pc) lv (.int y :: .int x :: st) hp ce sl := fun p e s m args below meth c H locs ls X r hl h => lv_icmp_eq X.1 X.2.1 hd ht (fun z => kt z p e s m args below meth c H locs ls X r hl h) (fun z => kf z p e s m args below meth c H locs ls X r hl h)
theorem sv_if_ne {x : Int32} {off : Int} {tgt : Nat} (hd : decode M.2.1 pc = .ok (.ifCond .ne off, 3)) (ht : (pc : Int) + off = (tgt : Int)) (kt : ¬ x = 0 → sV g M R Z (tgt) lv (st) hp ce sl) (kf : x = 0 → sV g M R Z (pc + 3) lv (st) hp ce sl) : sV g M R Z (pc) lv (.int x :: st) hp ce sl := fun p e s m args below meth c H locs ls X r hl h => lv_if_ne X.1 X.2.1 hd ht (fun z => kt z p e s m args below meth c H locs ls X r hl h) (fun z => kf z p e s m args below meth c H locs ls X r hl h)
theorem sv_icmp_ne {x y : Int32} {off : Int} {tgt : Nat} (hd : decode M.2.1 pc = .ok (.if_icmp .ne off, 3)) (ht : (pc : Int) + off = (tgt : Int)) (kt : ¬ x = y → sV g M R Z (tgt) lv (st) hp ce sl) (kf : x = y → sV g M R Z (pc + 3) lv (st) hp ce sl) : sV g M R Z (pc) lv (.int y :: .int x :: st) hp ce sl := fun p e s m args below meth c H locs ls X r hl h => lv_icmp_ne X.1 X.2.1 hd ht (fun z => kt z p e s m args below meth c H locs ls X r hl h) (fun z => kf z p e s m args below meth c H locs ls X r hl h)
theorem sv_if_lt {x : Int32} {off : Int} {tgt : Nat} (hd : decode M.2.1 pc = .ok (.ifCond .lt off, 3)) (ht : (pc : Int) + off = (tgt : Int)) (kt : x < 0 → sV g M R Z (tgt) lv (st) hp ce sl) (kf : ¬ (x < 0) → sV g M R Z (pc + 3) lv (st) hp ce sl) : sV g M R Z (pc) lv (.int x :: st) hp ce sl := fun p e s m args below meth c H locs ls X r hl h => lv_if_lt X.1 X.2.1 hd ht (fun z => kt z p e s m args below meth c H locs ls X r hl h) (fun z => kf z p e s m args below meth c H locs ls X r hl h)
theorem sv_icmp_lt {x y : Int32} {off : Int} {tgt : Nat} (hd : decode M.2.1 pc = .ok (.if_icmp .lt off, 3)) (ht : (pc : Int) + off = (tgt : Int)) (kt : x < y → sV g M R Z (tgt) lv (st) hp ce sl) (kf : ¬ (x < y) → sV g M R Z (pc + 3) lv (st) hp ce sl) : sV g M R Z (pc) lv (.int y :: .int x :: st) hp ce sl := fun p e s m args below meth c H locs ls X r hl h => lv_icmp_lt X.1 X.2.1 hd ht (fun z => kt z p e s m args below meth c H locs ls X r hl h) (fun z => kf z p e s m args below meth c H locs ls X r hl h)
theorem sv_if_ge {x : Int32} {off : Int} {tgt : Nat} (hd : decode M.2.1 pc = .ok (.ifCond .ge off, 3)) (ht : (pc : Int) + off = (tgt : Int)) (kt : 0 ≤ x → sV g M R Z (tgt) lv (st) hp ce sl) (kf : ¬ (0 ≤ x) → sV g M R Z (pc + 3) lv (st) hp ce sl) : sV g M R Z (pc) lv (.int x :: st) hp ce sl := fun p e s m args below meth c H locs ls X r hl h => lv_if_ge X.1 X.2.1 hd ht (fun z => kt z p e s m args below meth c H locs ls X r hl h) (fun z => kf z p e s m args below meth c H locs ls X r hl h)
theorem sv_icmp_ge {x y : Int32} {off : Int} {tgt : Nat} (hd : decode M.2.1 pc = .ok (.if_icmp .ge off, 3)) (ht : (pc : Int) + off = (tgt : Int)) (kt : y ≤ x → sV g M R Z (tgt) lv (st) hp ce sl) (kf : ¬ (y ≤ x) → sV g M R Z (pc + 3) lv (st) hp ce sl) : sV g M R Z (pc) lv (.int y :: .int x :: st) hp ce sl := fun p e s m args below meth c H locs ls X r hl h => lv_icmp_ge X.1 X.2.1 hd ht (fun z => kt z p e s m args below meth c H locs ls X r hl h) (fun z => kf z p e s m args below meth c H locs ls X r hl h)
theorem sv_if_gt {x : Int32} {off : Int} {tgt : Nat} (hd : decode M.2.1 pc = .ok (.ifCond .gt off, 3)) (ht : (pc : Int) + off = (tgt : Int)) (kt : 0 < x → sV g M R Z (tgt) lv (st) hp ce sl) (kf : ¬ (0 < x) → sV g M R Z (pc + 3) lv (st) hp ce sl) : sV g M R Z (pc) lv (.int x :: st) hp ce sl := fun p e s m args below meth c H locs ls X r hl h => lv_if_gt X.1 X.2.1 hd ht (fun z => kt z p e s m args below meth c H locs ls X r hl h) (fun z => kf z p e s m args below meth c H locs ls X r hl h)
theorem sv_icmp_gt {x y : Int32} {off : Int} {tgt : Nat} (hd : decode M.2.1 pc = .ok (.if_icmp .gt off, 3)) (ht : (pc : Int) + off = (tgt : Int)) (kt : y < x → sV g M R Z (tgt) lv (st) hp ce sl) (kf : ¬ (y < x) → sV g M R Z (pc + 3) lv (st) hp ce sl) : sV g M R Z (pc) lv (.int y :: .int x :: st) hp ce sl := fun p e s m args below meth c H locs ls X r hl h => lv_icmp_gt X.1 X.2.1 hd ht (fun z => kt z p e s m args below meth c H locs ls X r hl h) (fun z => kf z p e s m args below meth c H locs ls X r hl h)
theorem sv_if_le {x : Int32} {off : Int} {tgt : Nat} (hd : decode M.2.1 pc = .ok (.ifCond .le off, 3)) (ht : (pc : Int) + off = (tgt : Int)) (kt : x ≤ 0 → sV g M R Z (tgt) lv (st) hp ce sl) (kf : ¬ (x ≤ 0) → sV g M R Z (pc + 3) lv (st) hp ce sl) : sV g M R Z (pc) lv (.int x :: st) hp ce sl := fun p e s m args below meth c H locs ls X r hl h => lv_if_le X.1 X.2.1 hd ht (fun z => kt z p e s m args below meth c H locs ls X r hl h) (fun z => kf z p e s m args below meth c H locs ls X r hl h)
theorem sv_icmp_le {x y : Int32} {off : Int} {tgt : Nat} (hd : decode M.2.1 pc = .ok (.if_icmp .le off, 3)) (ht : (pc : Int) + off = (tgt : Int)) (kt : x ≤ y → sV g M R Z (tgt) lv (st) hp ce sl) (kf : ¬ (x ≤ y) → sV g M R Z (pc + 3) lv (st) hp ce sl) : sV g M R Z (pc) lv (.int y :: .int x :: st) hp ce sl := fun p e s m args below meth c H locs ls X r hl h => lv_icmp_le X.1 X.2.1 hd ht (fun z => kt z p e s m args below meth c H locs ls X r hl h) (fun z => kf z p e s m args below meth c H locs ls X r hl h)
theorem sv_goto {off : Int} {tgt : Nat} (hd : decode M.2.1 pc = .ok (.goto off, 3)) (ht : (pc : Int) + off = (tgt : Int)) (k : sV g M R Z (tgt) lv (st) hp ce sl) : sV g M R Z (pc) lv (st) hp ce sl := fun p e s m args below meth c H locs ls X r hl h => lv_goto X.1 X.2.1 hd ht (k p e s m args below meth c H locs ls X r hl h)
theorem sv_tableIn {dflt lo hi : Int} {offs : Array Int} {len : Nat} {x : Int32} {off : Int} {tgt : Nat} (hd : decode M.2.1 pc = .ok (.tableswitch dflt lo hi offs, len)) (h1 : ¬ x.toInt < lo) (h2 : ¬ hi < x.toInt) (ho : offs[(x.toInt - lo).toNat]? = some off) (ht : (pc : Int) + off = (tgt : Int)) (k : sV g M R Z (tgt) lv (st) hp ce sl) : sV g M R Z (pc) lv (.int x :: st) hp ce sl := fun p e s m args below meth c H locs ls X r hl h => lv_tableIn X.1 X.2.1 hd h1 h2 ho ht (k p e s m args below meth c H locs ls X r hl h)
theorem sv_tableOut {dflt lo hi : Int} {offs : Array Int} {len : Nat} {x : Int32} {tgt : Nat} (hd : decode M.2.1 pc = .ok (.tableswitch dflt lo hi offs, len)) (ho : x.toInt < lo ∨ hi < x.toInt) (ht : (pc : Int) + dflt = (tgt : Int)) (k : sV g M R Z (tgt) lv (st) hp ce sl) : sV g M R Z (pc) lv (.int x :: st) hp ce sl := fun p e s m args below meth c H locs ls X r hl h => lv_tableOut X.1 X.2.1 hd ho ht (k p e s m args below meth c H locs ls X r hl h)
theorem sv_ldc {index : Nat} {v : Int32} (hd : decode M.2.1 pc = .ok (.ldc index, 2)) (hw : Cond.constant M.1.cls index v ∈ sg_ws g) (k : sV g M R Z (pc + 2) lv (.int v :: st) hp ce sl) : sV g M R Z (pc) lv (st) hp ce sl := fun p e s m args below meth c H locs ls X r hl h => lv_ldc X.1 X.2.1 X.2.2.2.2.1 (X.2.2.2.2.2.1 _ hw) hd (k p e s m args below meth c H locs ls X r hl h)
theorem sv_ldcw {index : Nat} {v : Int32} (hd : decode M.2.1 pc = .ok (.ldc_w index, 3)) (hw : Cond.constant M.1.cls index v ∈ sg_ws g) (k : sV g M R Z (pc + 3) lv (.int v :: st) hp ce sl) : sV g M R Z (pc) lv (st) hp ce sl := fun p e s m args below meth c H locs ls X r hl h => lv_ldcw X.1 X.2.1 X.2.2.2.2.1 (X.2.2.2.2.2.1 _ hw) hd (k p e s m args below meth c H locs ls X r hl h)
theorem sv_ldc2 {index : Nat} {v : Int64} (hd : decode M.2.1 pc = .ok (.ldc2_w index, 3)) (hw : Cond.constantLong M.1.cls index v ∈ sg_ws g) (k : sV g M R Z (pc + 3) lv (.long v :: st) hp ce sl) : sV g M R Z (pc) lv (st) hp ce sl := fun p e s m args below meth c H locs ls X r hl h => lv_ldc2 X.1 X.2.1 X.2.2.2.2.1 (X.2.2.2.2.2.1 _ hw) hd (k p e s m args below meth c H locs ls X r hl h)
theorem sv_iincK {i : Nat} {n : Int} {x k : Int32} (hd : decode M.2.1 pc = .ok (.iinc i n, 3)) (hk : Int32.ofInt n = k) (hg : sGet i lv = some (.int x)) (hn : i < M.2.2.1) (kk : sV g M R Z (pc + 3) (sSet i (.int (x + k)) lv) (st) hp ce sl) : sV g M R Z (pc) lv (st) hp ce sl := sv_iinc hd hg (by rw [hk]) hn kk
theorem sv_aload_nS {q : Fin 4} {i x : Nat} (hd : decode M.2.1 pc = .ok (.aload_n q, 1)) (hi : (q : Nat) = i) (hg : sGet i lv = some (.retAddr x)) (k : sV g M R Z (pc + 1) lv (.retAddr x :: st) hp ce sl) : sV g M R Z (pc) lv (st) hp ce sl := fun p e s m args below meth c H locs ls X r hl h => lv_aload_n X.1 X.2.1 hd hi (h.get hg) (k p e s m args below meth c H locs ls X r hl h)
end SVR
end
section
/-! The layer's rules that read and write the heap, make cells, return and call. -/
theorem sAt.kept {g : sG} {i : Nat} {x : sE} {H H1 : Heap} (h : sAt g i x H) (hq : H1[sg_b g + i]? = H[sg_b g + i]?) : sAt g i x H1 := by
  obtain ⟨k, n, f⟩ | ⟨ci, fs⟩ := x
  · obtain ⟨cA, ty, h1, h2⟩ := h
    exact ⟨cA, ty, h1, hq.trans h2⟩
  · obtain ⟨r, h1, h2, cell, h3, h4⟩ := h
    exact ⟨r, h1, h2.kept hq, cell, hq.trans h3, h4⟩
theorem sR.put {g : sG} {hp : sHp} {H H1 : Heap} {a : Nat} {x : sE} (h : sR g hp H) (z : H1.size = H.size) (o : ∀ q, q ≠ sg_b g + a → H1[q]? = H[q]?) (hx : sAt g a x H1) : sR g (hp.1, sUp hp.2 a x) H1 := by
  refine ⟨z.trans h.1, fun i hi => ?_, fun q hq => (o q (by omega)).trans (h.2.2 q hq)⟩
  by_cases hia : i = a
  · subst hia
    simp only [sUp, if_true]
    exact hx
  · simp only [sUp, if_neg hia]
    exact (h.2.1 i hi).kept (o _ (by omega))
theorem sR.push {g : sG} {hp : sHp} {H H1 : Heap} {x : sE} (h : sR g hp H) (z : H1.size = H.size + 1) (o : ∀ q, q < H.size → H1[q]? = H[q]?) (hx : sAt g hp.1 x H1) : sR g (hp.1 + 1, sUp hp.2 hp.1 x) H1 := by
  have hz := h.1
  refine ⟨by show H1.size = sg_b g + (hp.1 + 1); omega, fun i hi => ?_, fun q hq => (o q (by omega)).trans (h.2.2 q hq)⟩
  by_cases hia : i = hp.1
  · subst hia
    simp only [sUp, if_true]
    exact hx
  · simp only [sUp, if_neg hia]
    have hi' : i < hp.1 + 1 := hi
    exact (h.2.1 i (by omega)).kept (o _ (by omega))
/-- a class's tables stand among the words -/
def sCl (g : sG) (ci : Nat) (T : vw_C) (ty : Nat → FieldType) : Prop := (sg_cl g)[ci]? = some T ∧ (∀ w ∈ u_ws T.1 T.2.1 T.2.2, w ∈ sg_ws g) ∧ (∀ k, k < T.2.2 → parseFieldDescriptor (T.2.1 k).2.2.1 = some (ty k)) ∧ ∀ a, a < T.2.2 → ∀ b, b < T.2.2 → a ≠ b → (T.2.1 a).2.1 ≠ (T.2.1 b).2.1
abbrev sFl (T : vw_C) (own : String) (index k : Nat) : Cond := Cond.fieldLink own index (T.2.1 k).1 (T.2.1 k).2.1 (T.2.1 k).2.2.1
theorem vp_V_set {fs : List Value} {k : Nat} (hk : k < fs.length) (v : Value) (j : Nat) : vp_V (fs.set k v) j = if j = k then v else vp_V fs j := by
  rw [← vp_updV_set hk v j]
  rfl
section SVH
variable {g : sG} {M : sM} {R : Room} {Z : sZT} {pc : Nat} {lv : List (Nat × Value)} {st : List Value} {hp : sHp} {ce sl : Nat}
theorem sv_getfield {index ci a : Nat} {T : vw_C} {ty : Nat → FieldType} {fs : List Value} {v : Value} (hd : decode M.2.1 pc = .ok (.getfield index, 3)) (hC : sCl g ci T ty) (k : Nat) (hk : k < T.2.2) (hw : sFl T M.1.cls index k ∈ sg_ws g) (ha : a < hp.1) (he : hp.2 a = .inr (ci, fs)) (hv : vp_V fs k = v)
    (kk : sV g M R Z (pc + 3) lv (v :: st) hp ce sl) : sV g M R Z pc lv (.ref a :: st) hp ce sl := by
  intro p e s m args below meth c H locs ls X r hl h
  obtain ⟨hx, hb, hr, hml, hown, hts, hK, hlk, hlw, hnm⟩ := id X
  have h0 := r.2.1 a ha
  rw [he] at h0
  obtain ⟨r', h1, ⟨cell, q1, q2, q3, q4⟩, cell2, q5, q6⟩ := h0
  have hr : r' = T := Option.some.inj (h1.symm.trans hC.1)
  subst hr
  obtain ⟨hS, hfc, kC, hkC, hkind⟩ := hK.1.1 ci _ hC.1
  obtain ⟨cf, kf, fi, f, hi, hsl⟩ := hS k hk
  refine W.getf hx hb hown (hts _ hw) hi (u_facts hfc hkC (u_lays hts hC.2.1 hk) hi).1 q1 (by rw [q3]; exact fun h => by cases h) (v := rv (sg_r g) v) ?_ rfl rfl hd (kk p e s m args below meth c H locs ls X r hl h)
  rw [hsl, q4 k hk, ← hv]
theorem sv_apart {s : State} {args : Array Value} {ci : Nat} {T : vw_C} {ty : Nat → FieldType} (hts : ∀ w ∈ sg_ws g, w.before args s = true) (hC : sCl g ci T ty) (hK : sK g s) : ∀ x y, x < T.2.2 → y < T.2.2 → x ≠ y → (g.2.1.2 ci) x ≠ (g.2.1.2 ci) y := by
  intro x y hx hy hne
  obtain ⟨hS, -⟩ := hK.1.1 ci _ hC.1
  obtain ⟨_, _, _, fa, hia, ea⟩ := hS x hx
  obtain ⟨_, _, _, fb, hib, eb⟩ := hS y hy
  rw [← ea, ← eb]
  refine u_apart (u_lays hts hC.2.1 hx) (u_lays hts hC.2.1 hy) hia hib ?_
  rw [(State.fieldFound?_type hia (hC.2.2.1 x hx)).1, (State.fieldFound?_type hib (hC.2.2.1 y hy)).1]
  exact hC.2.2.2 x hx y hy hne
theorem sv_putfield {index ci a : Nat} {T : vw_C} {ty : Nat → FieldType} {fs : List Value} {v : Value} (hd : decode M.2.1 pc = .ok (.putfield index, 3)) (hC : sCl g ci T ty) (k : Nat) (hk : k < T.2.2) (hw : sFl T M.1.cls index k ∈ sg_ws g) (hfin : (T.2.1 k).2.2.2 = false) (ha : a < hp.1) (he : hp.2 a = .inr (ci, fs)) (hn : ∀ b, narrow (ty k) (rv b v) = rv b v) (hft : ∀ b, fits (ty k) (rv b v) = true) (hlen : k < fs.length)
    (kk : sV g M R Z (pc + 3) lv st (hp.1, sUp hp.2 a (.inr (ci, fs.set k v))) ce sl) : sV g M R Z pc lv (v :: .ref a :: st) hp ce sl := by
  intro p e s m args below meth c H locs ls X r hl h
  obtain ⟨hx, hb, hr, hml, hown, hts, hK, hlk, hlw, hnm⟩ := id X
  have hap := sv_apart hts hC hK
  have h0 := r.2.1 a ha
  rw [he] at h0
  obtain ⟨r', h1, ⟨cell, q1, q2, q3, q4⟩, cell2, q5, q6⟩ := h0
  have hr : r' = T := Option.some.inj (h1.symm.trans hC.1)
  subst hr
  obtain ⟨hS, hfc, kC, hkC, hkind⟩ := hK.1.1 ci _ hC.1
  obtain ⟨cf, kf, fi, f, hi, hsl⟩ := hS k hk
  have hlay := hts _ (hC.2.1 _ (u_in_lay hk))
  unfold u_lay at hlay
  rw [if_neg (by rw [hfin]; decide)] at hlay
  have hst := (u_facts hfc hkC (u_lays hts hC.2.1 hk) hi).1
  have h6 := u_store hfc hkC hkind hlay hi (hC.2.2.1 k hk) (hn (sg_r g)) (hft (sg_r g))
  refine W.putK hx hb (f := f) ⟨hown, hts _ hw, ⟨_, _, _, hi⟩, hst⟩ (by rw [q2]; exact h6) q1 q3 (by rw [hsl]; exact k2_hasslot (q4 k hk)) rfl rfl hd fun H' e1 e2 e3 => ?_
  rw [hsl] at e1 ⊢
  refine kk p e s m args below meth c H' _ ls X (r.put e2 e3 ⟨_, hC.1, t_OB.to (V := updV (fun j => rv (sg_r g) (vp_V fs j)) k (rv (sg_r g) v)) ⟨_, e1, q2, q3, t_set q4 hap hk _⟩ (fun j _ => ?_), _, e1, by
    have e9 : cell2 = cell := Option.some.inj (q5.symm.trans q1)
    subst e9
    simpa [Cell.setSlot] using q6⟩) (fun q hq => ?_) h
  · rw [vp_V_set hlen]
    simp only [updV]
    split <;> rfl
  · rcases List.mem_append.mp hq with hq | hq
    · exact hl q hq
    · rw [List.mem_singleton.mp hq]; exact Nat.le_add_right _ _
theorem sv_putfinal {index ci a : Nat} {T : vw_C} {ty : Nat → FieldType} {fs : List Value} {v : Value} (hd : decode M.2.1 pc = .ok (.putfield index, 3)) (hC : sCl g ci T ty) (k : Nat) (hk : k < T.2.2) (hw : sFl T M.1.cls index k ∈ sg_ws g) (hfin : (T.2.1 k).2.2.2 = true) (hini : M.1.name = "<init>") (hdecl : (T.2.1 k).1 = M.1.cls) (ha : a < hp.1) (he : hp.2 a = .inr (ci, fs)) (hn : ∀ b, narrow (ty k) (rv b v) = rv b v) (hft : ∀ b, fits (ty k) (rv b v) = true) (hlen : k < fs.length)
    (kk : sV g M R Z (pc + 3) lv st (hp.1, sUp hp.2 a (.inr (ci, fs.set k v))) ce sl) : sV g M R Z pc lv (v :: .ref a :: st) hp ce sl := by
  intro p e s m args below meth c H locs ls X r hl h
  obtain ⟨hx, hb, hr, hml, hown, hts, hK, hlk, hlw, hnm⟩ := id X
  have hap := sv_apart hts hC hK
  have h0 := r.2.1 a ha
  rw [he] at h0
  obtain ⟨r', h1, ⟨cell, q1, q2, q3, q4⟩, cell2, q5, q6⟩ := h0
  have hr : r' = T := Option.some.inj (h1.symm.trans hC.1)
  subst hr
  obtain ⟨hS, hfc, kC, hkC, hkind⟩ := hK.1.1 ci _ hC.1
  obtain ⟨cf, kf, fi, f, hi, hsl⟩ := hS k hk
  have hlay := hts _ (hC.2.1 _ (u_in_lay hk))
  unfold u_lay at hlay
  rw [if_pos hfin] at hlay
  have hst := (u_facts hfc hkC (u_lays hts hC.2.1 hk) hi).1
  have hcf : m.cls = cf := by
    obtain ⟨_, _, c', _, _, _, -, -, hf', -, -, -, hown2, -⟩ := Cond.laysFinal_spec hlay
    have e1 : c' = cf := by have := hi.symm.trans hf'; simp at this; exact this.1.symm
    rw [hdecl] at hown2
    rw [← e1]; exact Option.some.inj (hown.symm.trans hown2)
  have h6 := u_fits hfc hkC hkind (Or.inr hlay) hi (hC.2.2.1 k hk) (hn (sg_r g)) (hft (sg_r g))
  refine W.putFinK hx hb hown (hts _ hw) hi hst hcf (hnm.trans hini) (by rw [q2]; exact h6) q1 q3 (by rw [hsl]; exact k2_hasslot (q4 k hk)) rfl rfl hd fun H' e1 e2 e3 => ?_
  rw [hsl] at e1 ⊢
  refine kk p e s m args below meth c H' _ ls X (r.put e2 e3 ⟨_, hC.1, t_OB.to (V := updV (fun j => rv (sg_r g) (vp_V fs j)) k (rv (sg_r g) v)) ⟨_, e1, q2, q3, t_set q4 hap hk _⟩ (fun j _ => ?_), _, e1, by
    have e9 : cell2 = cell := Option.some.inj (q5.symm.trans q1)
    subst e9
    simpa [Cell.setSlot] using q6⟩) (fun q hq => ?_) h
  · rw [vp_V_set hlen]
    simp only [updV]
    split <;> rfl
  · rcases List.mem_append.mp hq with hq | hq
    · exact hl q hq
    · rw [List.mem_singleton.mp hq]; exact Nat.le_add_right _ _
end SVH
end
section
/-! The layer's rules: arrays, new cells, returns, calls. -/
def sI (q : Nat → Int32) : Nat → Value := fun j => .int (q j)
def sJ (q : Nat → Int64) : Nat → Value := fun j => .long (q j)
def sP (q : Nat → Option Nat) : Nat → Value := fun j => va_rf (q j)
def sUpP (q : Nat → Option Nat) (k : Nat) (x : Option Nat) : Nat → Option Nat := fun j => if j = k then x else q j
theorem sI_up (q : Nat → Int32) (k : Nat) (x : Int32) : updV (sI q) k (.int x) = sI (upd q k x) := by
  funext j; simp only [updV, sI, upd]; split <;> rfl
theorem sJ_up (q : Nat → Int64) (k : Nat) (x : Int64) : updV (sJ q) k (.long x) = sJ (vp_updL q k x) := by
  funext j; simp only [updV, sJ, vp_updL]; split <;> rfl
theorem sP_up (q : Nat → Option Nat) (k : Nat) (x : Nat) : updV (sP q) k (.ref x) = sP (sUpP q k (some x)) := by
  funext j; simp only [updV, sP, sUpP]; split <;> rfl
theorem rv_up (b : Nat × Nat) (f : Nat → Value) (k : Nat) (v : Value) : (fun j => rv b (updV f k v j)) = updV (fun j => rv b (f j)) k (rv b v) := by
  funext j; simp only [updV]; split <;> rfl
section SVA
variable {g : sG} {M : sM} {R : Room} {Z : sZT} {pc : Nat} {lv : List (Nat × Value)} {st : List Value} {hp : sHp} {ce sl : Nat}
variable {a kd n : Nat} {cA : ClassId} {f : Nat → Value} {i : Int32}
theorem sArr {H : Heap} {s : State} {ty : FieldType} (r : sR g hp H) (hK : sK g s) (ha : a < hp.1) (he : hp.2 a = .inl (kd, n, f)) (ht : g.2.2.1[kd]? = some (cA, ty)) : H[sg_b g + a]? = some (arrV cA n (fun j => rv (sg_r g) (f j))) ∧ s.isArrayOf (arrV cA n (fun j => rv (sg_r g) (f j))) ty := by
  have h0 := r.2.1 a ha
  rw [he] at h0
  obtain ⟨cA', ty', h1, h2⟩ := h0
  cases ht.symm.trans h1
  exact ⟨h2, (hK.1.2 kd _ ht).1 n _⟩
theorem sIn (hin : vp_in i n) {z : Nat → Value} : ¬ (i < 0 ∨ (arrV cA n z).slots.size ≤ i.toNatClampNeg) := by rw [arrV_size]; exact hin
theorem sInL (hin : vp_in i n) : i.toNatClampNeg < n := Nat.not_le.mp fun q => hin (Or.inr q)
theorem sv_iaload {v : Value} (hd : decode M.2.1 pc = .ok (.iaload, 1)) (ht : g.2.2.1[kd]? = some (cA, .int)) (ha : a < hp.1) (he : hp.2 a = .inl (kd, n, f)) (hin : vp_in i n) (hv : f i.toNatClampNeg = v)
    (kk : sV g M R Z (pc + 1) lv (v :: st) hp ce sl) : sV g M R Z pc lv (.int i :: .ref a :: st) hp ce sl := by
  intro p e s m args below meth c H locs ls X r hl h
  obtain ⟨h1, h2⟩ := sArr r X.2.2.2.2.2.2.1 ha he ht
  exact W.iald (v := rv (sg_r g) v) X.1 X.2.1 h1 h2 (fun q => by cases q) (sIn hin) (by rw [arrV_read _ _ (sInL hin), ← hv]) rfl rfl hd (kk p e s m args below meth c H locs ls X r hl h)
theorem sv_baload {v : Value} (hd : decode M.2.1 pc = .ok (.baload, 1)) (ht : g.2.2.1[kd]? = some (cA, .byte)) (ha : a < hp.1) (he : hp.2 a = .inl (kd, n, f)) (hin : vp_in i n) (hv : f i.toNatClampNeg = v)
    (kk : sV g M R Z (pc + 1) lv (v :: st) hp ce sl) : sV g M R Z pc lv (.int i :: .ref a :: st) hp ce sl := by
  intro p e s m args below meth c H locs ls X r hl h
  obtain ⟨h1, h2⟩ := sArr r X.2.2.2.2.2.2.1 ha he ht
  exact W.bald (v := rv (sg_r g) v) X.1 X.2.1 h1 h2 (fun q => by cases q) (sIn hin) (by rw [arrV_read _ _ (sInL hin), ← hv]) rfl rfl hd (kk p e s m args below meth c H locs ls X r hl h)
theorem sv_zaload {v : Value} (hd : decode M.2.1 pc = .ok (.baload, 1)) (ht : g.2.2.1[kd]? = some (cA, .boolean)) (ha : a < hp.1) (he : hp.2 a = .inl (kd, n, f)) (hin : vp_in i n) (hv : f i.toNatClampNeg = v)
    (kk : sV g M R Z (pc + 1) lv (v :: st) hp ce sl) : sV g M R Z pc lv (.int i :: .ref a :: st) hp ce sl := by
  intro p e s m args below meth c H locs ls X r hl h
  obtain ⟨h1, h2⟩ := sArr r X.2.2.2.2.2.2.1 ha he ht
  exact W.zald (v := rv (sg_r g) v) X.1 X.2.1 h1 h2 (fun q => by cases q) (sIn hin) (by rw [arrV_read _ _ (sInL hin), ← hv]) rfl rfl hd (kk p e s m args below meth c H locs ls X r hl h)
theorem sv_laload {v : Value} (hd : decode M.2.1 pc = .ok (.laload, 1)) (ht : g.2.2.1[kd]? = some (cA, .long)) (ha : a < hp.1) (he : hp.2 a = .inl (kd, n, f)) (hin : vp_in i n) (hv : f i.toNatClampNeg = v)
    (kk : sV g M R Z (pc + 1) lv (v :: st) hp ce sl) : sV g M R Z pc lv (.int i :: .ref a :: st) hp ce sl := by
  intro p e s m args below meth c H locs ls X r hl h
  obtain ⟨h1, h2⟩ := sArr r X.2.2.2.2.2.2.1 ha he ht
  exact W.lald (v := rv (sg_r g) v) X.1 X.2.1 h1 h2 (fun q => by cases q) (sIn hin) (by rw [arrV_read _ _ (sInL hin), ← hv]) rfl rfl hd (kk p e s m args below meth c H locs ls X r hl h)
theorem sv_aaload {v : Value} {C0 : String} (hd : decode M.2.1 pc = .ok (.aaload, 1)) (ht : g.2.2.1[kd]? = some (cA, .object C0)) (ha : a < hp.1) (he : hp.2 a = .inl (kd, n, f)) (hin : vp_in i n) (hv : f i.toNatClampNeg = v)
    (kk : sV g M R Z (pc + 1) lv (v :: st) hp ce sl) : sV g M R Z pc lv (.int i :: .ref a :: st) hp ce sl := by
  intro p e s m args below meth c H locs ls X r hl h
  obtain ⟨h1, h2⟩ := sArr r X.2.2.2.2.2.2.1 ha he ht
  exact W.aald (v := rv (sg_r g) v) X.1 X.2.1 h1 h2 rfl (fun q => by cases q) (sIn hin) (by rw [arrV_read _ _ (sInL hin), ← hv]) rfl rfl hd (kk p e s m args below meth c H locs ls X r hl h)
theorem sv_arraylength {ty : FieldType} {v : Int32} (hd : decode M.2.1 pc = .ok (.arraylength, 1)) (ht : g.2.2.1[kd]? = some (cA, ty)) (ha : a < hp.1) (he : hp.2 a = .inl (kd, n, f)) (hv : Int32.ofNat n = v)
    (kk : sV g M R Z (pc + 1) lv (.int v :: st) hp ce sl) : sV g M R Z pc lv (.ref a :: st) hp ce sl := by
  intro p e s m args below meth c H locs ls X r hl h
  obtain ⟨h1, h2⟩ := sArr r X.2.2.2.2.2.2.1 ha he ht
  exact W.alen (n := v) X.1 X.2.1 h1 h2 (by rw [arrV_size, ← hv]) rfl rfl hd (kk p e s m args below meth c H locs ls X r hl h)
theorem sv_iastore {x : Int32} (hd : decode M.2.1 pc = .ok (.iastore, 1)) (ht : g.2.2.1[kd]? = some (cA, .int)) (ha : a < hp.1) (he : hp.2 a = .inl (kd, n, f)) (hin : vp_in i n)
    (kk : sV g M R Z (pc + 1) lv st (hp.1, sUp hp.2 a (.inl (kd, n, updV f i.toNatClampNeg (.int x)))) ce sl) : sV g M R Z pc lv (.int x :: .int i :: .ref a :: st) hp ce sl := by
  intro p e s m args below meth c H locs ls X r hl h
  obtain ⟨h1, h2⟩ := sArr r X.2.2.2.2.2.2.1 ha he ht
  refine W.iast X.1 X.2.1 h1 h2 (fun q => by cases q) (sIn hin) rfl rfl hd fun H1 e1 z oq => ?_
  refine kk p e s m args below meth c H1 _ ls X (r.put z oq ⟨cA, .int, ht, ?_⟩) (fun q hq => ?_) h
  · rw [e1, rv_up, arrV_store]
    rfl
  · rcases List.mem_append.mp hq with hq | hq
    · exact hl q hq
    · rw [List.mem_singleton.mp hq]; exact Nat.le_add_right _ _
theorem sv_bastore {x : Int32} (hd : decode M.2.1 pc = .ok (.bastore, 1)) (ht : g.2.2.1[kd]? = some (cA, .byte)) (ha : a < hp.1) (he : hp.2 a = .inl (kd, n, f)) (hin : vp_in i n)
    (kk : sV g M R Z (pc + 1) lv st (hp.1, sUp hp.2 a (.inl (kd, n, updV f i.toNatClampNeg (.int (vp_nar .byte x))))) ce sl) : sV g M R Z pc lv (.int x :: .int i :: .ref a :: st) hp ce sl := by
  intro p e s m args below meth c H locs ls X r hl h
  obtain ⟨h1, h2⟩ := sArr r X.2.2.2.2.2.2.1 ha he ht
  refine W.bast X.1 X.2.1 h1 h2 (fun q => by cases q) (sIn hin) rfl rfl hd fun H1 e1 z oq => ?_
  refine kk p e s m args below meth c H1 _ ls X (r.put z oq ⟨cA, .byte, ht, ?_⟩) (fun q hq => ?_) h
  · rw [e1, rv_up, arrV_store]
    rfl
  · rcases List.mem_append.mp hq with hq | hq
    · exact hl q hq
    · rw [List.mem_singleton.mp hq]; exact Nat.le_add_right _ _
theorem sv_zastore {x : Int32} (hd : decode M.2.1 pc = .ok (.bastore, 1)) (ht : g.2.2.1[kd]? = some (cA, .boolean)) (ha : a < hp.1) (he : hp.2 a = .inl (kd, n, f)) (hin : vp_in i n)
    (kk : sV g M R Z (pc + 1) lv st (hp.1, sUp hp.2 a (.inl (kd, n, updV f i.toNatClampNeg (.int (vp_nar .boolean x))))) ce sl) : sV g M R Z pc lv (.int x :: .int i :: .ref a :: st) hp ce sl := by
  intro p e s m args below meth c H locs ls X r hl h
  obtain ⟨h1, h2⟩ := sArr r X.2.2.2.2.2.2.1 ha he ht
  refine W.zast X.1 X.2.1 h1 h2 (fun q => by cases q) (sIn hin) rfl rfl hd fun H1 e1 z oq => ?_
  refine kk p e s m args below meth c H1 _ ls X (r.put z oq ⟨cA, .boolean, ht, ?_⟩) (fun q hq => ?_) h
  · rw [e1, rv_up, arrV_store]
    rfl
  · rcases List.mem_append.mp hq with hq | hq
    · exact hl q hq
    · rw [List.mem_singleton.mp hq]; exact Nat.le_add_right _ _
theorem sv_lastore {x : Int64} (hd : decode M.2.1 pc = .ok (.lastore, 1)) (ht : g.2.2.1[kd]? = some (cA, .long)) (ha : a < hp.1) (he : hp.2 a = .inl (kd, n, f)) (hin : vp_in i n)
    (kk : sV g M R Z (pc + 1) lv st (hp.1, sUp hp.2 a (.inl (kd, n, updV f i.toNatClampNeg (.long x)))) ce sl) : sV g M R Z pc lv (.long x :: .int i :: .ref a :: st) hp ce sl := by
  intro p e s m args below meth c H locs ls X r hl h
  obtain ⟨h1, h2⟩ := sArr r X.2.2.2.2.2.2.1 ha he ht
  refine W.last X.1 X.2.1 h1 h2 (fun q => by cases q) (sIn hin) rfl rfl hd fun H1 e1 z oq => ?_
  refine kk p e s m args below meth c H1 _ ls X (r.put z oq ⟨cA, .long, ht, ?_⟩) (fun q hq => ?_) h
  · rw [e1, rv_up, arrV_store]
    rfl
  · rcases List.mem_append.mp hq with hq | hq
    · exact hl q hq
    · rw [List.mem_singleton.mp hq]; exact Nat.le_add_right _ _
theorem sv_aastore {v ci : Nat} {T : vw_C} {ty : Nat → FieldType} {fs : List Value} (hd : decode M.2.1 pc = .ok (.aastore, 1)) (hC : sCl g ci T ty) (ht : g.2.2.1[kd]? = some (cA, .object T.1)) (ha : a < hp.1) (he : hp.2 a = .inl (kd, n, f)) (hin : vp_in i n) (hv : v < hp.1) (hev : hp.2 v = .inr (ci, fs))
    (kk : sV g M R Z (pc + 1) lv st (hp.1, sUp hp.2 a (.inl (kd, n, updV f i.toNatClampNeg (.ref v)))) ce sl) : sV g M R Z pc lv (.ref v :: .int i :: .ref a :: st) hp ce sl := by
  intro p e s m args below meth c H locs ls X r hl h
  have hK : sK g s := X.2.2.2.2.2.2.1
  obtain ⟨h1, h2⟩ := sArr r hK ha he ht
  have h0 := r.2.1 v hv
  rw [hev] at h0
  obtain ⟨r', hr', ⟨cellV, g1, g2, g3, -⟩, -⟩ := h0
  have hcls := (hK.1.1 ci T hC.1).2
  obtain ⟨kA, comp, k1, k2, k3, -⟩ := (hK.1.2 kd _ ht).2
  have hcomp : comp = g.2.1.1 ci := Option.some.inj (k3.symm.trans hcls.1)
  subst hcomp
  obtain ⟨kC, hkC, -⟩ := id hcls.2
  refine W.aast X.1 X.2.1 h1 (fun q h => by cases h) (fun h => by cases h) k1 k2 rfl hkC ⟨fun q => hin (Or.inl q), by rw [arrV_size]; exact sInL hin⟩ g1 (fun q h => by rw [g3] at h; cases h) (by rw [g2]; exact hkC) (by rw [g2]; exact va_assign hcls) rfl rfl hd fun H1 e1 z oq => ?_
  refine kk p e s m args below meth c H1 _ ls X (r.put z oq ⟨cA, _, ht, ?_⟩) (fun q hq => ?_) h
  · rw [e1, rv_up, arrV_store]
    rfl
  · rcases List.mem_append.mp hq with hq | hq
    · exact hl q hq
    · rw [List.mem_singleton.mp hq]; exact Nat.le_add_right _ _
theorem sv_new {index ci : Nat} {T : vw_C} {ty : Nat → FieldType} {fs : List Value} (hd : decode M.2.1 pc = .ok (.new index, 3)) (hC : sCl g ci T ty) (hcl : Cond.classLink M.1.cls index T.1 ∈ sg_ws g) (hinst : Cond.instantiable T.1 T.2.2 ∈ sg_ws g) (hini : Cond.initialized T.1 ∈ sg_ws g) (hfs : ∀ b j, j < T.2.2 → defaultValue (ty j) = rv b (vp_V fs j)) (hc1 : ce + 1 ≤ R.cells) (hs1 : sl + T.2.2 ≤ R.slots)
    (kk : sV g M R Z (pc + 3) lv (.ref hp.1 :: st) (hp.1 + 1, sUp hp.2 hp.1 (.inr (ci, fs))) (ce + 1) (sl + T.2.2)) : sV g M R Z pc lv st hp ce sl := by
  intro p e s m args below meth c H locs ls X r hl h
  obtain ⟨hx, hb, hr, hml, hown, hts, hK, hlk, hlw, hnm⟩ := id X
  have hKn := hK.1.1 ci _ hC.1
  refine W.newcK hx hb hown (hts _ hcl) (hts _ hinst) (hts _ hini) rfl hd hc1 hs1 hKn.2.1 rfl fun H1 kC hkC e1 z1 o1 => ?_
  have hz := r.1
  have hR : sR g (hp.1 + 1, sUp hp.2 hp.1 (.inr (ci, fs))) H1 := r.push z1 o1 ⟨T, hC.1, (u_born ty hts hC.2.1 hKn hkC (by rw [← hz]; exact e1) hC.2.2.1).to (hfs (sg_r g)), _, by rw [← hz]; exact e1, by
    obtain ⟨c1, k1, g1, g2, -, -, -, g3⟩ := Cond.instantiable_spec (hts _ hinst)
    have e8 : c1 = g.2.1.1 ci := Option.some.inj (g1.symm.trans hKn.2.1)
    subst e8
    have e9 : k1 = kC := Option.some.inj (g2.symm.trans hkC)
    subst e9
    show (Array.map defaultValue k1.instanceTypes).size ≤ T.2.2
    rw [Array.size_map, g3]; exact Nat.le_refl _⟩
  have := kk p e s m args below meth c H1 locs ls X hR hl h
  rw [show (Value.ref hp.1 :: st).map (rv (sg_r g)) = .ref (sg_b g + hp.1) :: st.map (rv (sg_r g)) from rfl, ← hz] at this
  exact this
theorem sv_newarray {atype : ArrayType} {x : Int32} {ty : FieldType} {N : Nat} {v : Value} (hd : decode M.2.1 pc = .ok (.newarray atype, 2)) (hty : newarray.typeOf atype = ty) (hw : Cond.arrayClass ty ∈ sg_ws g) (ht : g.2.2.1[kd]? = some (cA, ty)) (hra : ∀ U : State, va_RA U cA ty → U.vm.findClass ("[" ++ ty.toString) = some cA) (hn : ¬ x < 0) (hN : x.toNatClampNeg = N) (hby : N * componentBytes ty ≤ 536870912) (hv : ∀ b, defaultValue ty = rv b v) (hc1 : ce + 1 ≤ R.cells) (hs1 : sl + N ≤ R.slots)
    (kk : sV g M R Z (pc + 2) lv (.ref hp.1 :: st) (hp.1 + 1, sUp hp.2 hp.1 (.inl (kd, N, fun _ => v))) (ce + 1) (sl + N)) : sV g M R Z pc lv (.int x :: st) hp ce sl := by
  subst hty
  intro p e s m args below meth c H locs ls X r hl h
  obtain ⟨hx, hb, hr, hml, hown, hts, hK, hlk, hlw, hnm⟩ := id X
  refine va_newaK hx hb (hts _ hw) rfl hd rfl hn hN hby hc1 hs1 rfl fun H1 cA' e1 z1 o1 hAr hNm => ?_
  have hcc : cA' = cA := Option.some.inj (hNm.symm.trans (hra s (hK.1.2 kd _ ht).2))
  subst hcc
  have hz := r.1
  have hR : sR g (hp.1 + 1, sUp hp.2 hp.1 (.inl (kd, N, fun _ => v))) H1 := r.push z1 o1 ⟨cA', _, ht, by rw [← hz, e1, hv (sg_r g)]⟩
  have := kk p e s m args below meth c H1 locs ls X hR hl h
  rw [show (Value.ref hp.1 :: st).map (rv (sg_r g)) = .ref (sg_b g + hp.1) :: st.map (rv (sg_r g)) from rfl, ← hz] at this
  exact this
theorem sv_anewarray {index : Nat} {x : Int32} {C0 : String} {N : Nat} (hd : decode M.2.1 pc = .ok (.anewarray index, 3)) (hcl : Cond.classLink M.1.cls index C0 ∈ sg_ws g) (ht : g.2.2.1[kd]? = some (cA, .object C0)) (hn : ¬ x < 0) (hN : x.toNatClampNeg = N) (hby : N * 4 ≤ 536870912) (hc1 : ce + 1 ≤ R.cells) (hs1 : sl + N ≤ R.slots)
    (kk : sV g M R Z (pc + 3) lv (.ref hp.1 :: st) (hp.1 + 1, sUp hp.2 hp.1 (.inl (kd, N, fun _ => .null))) (ce + 1) (sl + N)) : sV g M R Z pc lv (.int x :: st) hp ce sl := by
  subst hN
  intro p e s m args below meth c H locs ls X r hl h
  obtain ⟨hx, hb, hr, hml, hown, hts, hK, hlk, hlw, hnm⟩ := id X
  refine W.anew hx hb hown (hts _ hcl) (va_AO.use (hK.2.1 kd _ _ ht)) rfl hd rfl hn hby hc1 hs1 fun cA' kA comp h1 h2 h3 h4 => ?_
  obtain ⟨-, kA2, comp2, g1, g2, g3, g4⟩ := hK.1.2 kd _ ht
  have hcc : cA' = cA := Option.some.inj (h1.symm.trans g4)
  subst hcc
  have hz := r.1
  have hR : sR g (hp.1 + 1, sUp hp.2 hp.1 (.inl (kd, x.toNatClampNeg, fun _ => .null))) (H.push { cls := cA', slots := Array.replicate x.toNatClampNeg .null, vm := .none }) := by
    refine r.push (by simp) (fun q hq => ?_) ⟨cA', _, ht, ?_⟩
    · rw [Array.getElem?_push, if_neg (Nat.ne_of_lt hq)]
    · rw [← hz, arrV_new]
      simp
      rfl
  have := kk p e s m args below meth c _ locs ls X hR hl h
  rw [show (Value.ref hp.1 :: st).map (rv (sg_r g)) = .ref (sg_b g + hp.1) :: st.map (rv (sg_r g)) from rfl, ← hz] at this
  exact this
/-! the script -/
theorem sv_sld (hd : decode M.2.1 pc = .ok (.iaload, 1)) (hin : vp_in i (sg_L g)) (kk : sV g M R Z (pc + 1) lv (.int (sg_xs g i.toNatClampNeg) :: st) hp ce sl) : sV g M R Z pc lv (.int i :: .retAddr 0 :: st) hp ce sl := by
  intro p e s m args below meth c H locs ls X r hl h
  obtain ⟨scr, h1, h2, h3, h4, h5⟩ := X.2.2.2.2.2.2.1.2.2.1
  have hlt : i.toNatClampNeg < sg_L g := Nat.not_le.mp fun q => hin (Or.inr q)
  exact W.iald (v := .int (sg_xs g i.toNatClampNeg)) X.1 X.2.1 (by show H[(sg_r g).2]? = some scr; rw [r.2.2 _ (Array.getElem?_eq_some_iff.mp h1).1]; exact h1) h2 h3 (by rw [h4]; exact hin) (h5 _ hlt) rfl rfl hd (kk p e s m args below meth c H locs ls X r hl h)
theorem sv_slen (hd : decode M.2.1 pc = .ok (.arraylength, 1)) (kk : sV g M R Z (pc + 1) lv (.int (Int32.ofNat (sg_L g)) :: st) hp ce sl) : sV g M R Z pc lv (.retAddr 0 :: st) hp ce sl := by
  intro p e s m args below meth c H locs ls X r hl h
  obtain ⟨scr, h1, h2, h3, h4, h5⟩ := X.2.2.2.2.2.2.1.2.2.1
  exact W.alen (n := Int32.ofNat (sg_L g)) X.1 X.2.1 (by show H[(sg_r g).2]? = some scr; rw [r.2.2 _ (Array.getElem?_eq_some_iff.mp h1).1]; exact h1) h2 (by rw [h4] <;> rfl) rfl rfl hd (kk p e s m args below meth c H locs ls X r hl h)
/-! returns -/
theorem sv_iret {C S : Nat} {Q : Option Value → sHp → Prop} {v : Int32} (hd : decode M.2.1 pc = .ok (.ireturn, 1)) (hret : M.2.2.2 = some .int) (hc : ce ≤ C) (hs : sl ≤ S) (hq : Q (some (.int v)) hp) : sV g M R (sZ g C S Q) pc lv [.int v] hp ce sl := by
  intro p e s m args below meth c H locs ls X r hl h
  obtain ⟨hx, hb, hr, hml, hown, hts, hK, hlk, hlw, hnm⟩ := id X
  exact W.widen hc hs (W.iret (v := v) hx hb (hr.trans hret) (fun t ht hW => ⟨some (.int v), hp, rfl, hq, by rw [ht]; exact r, hK.warm hW⟩) hl hd hlk)
theorem sv_zret {C S : Nat} {Q : Option Value → sHp → Prop} {v : Int32} {ty : FieldType} (hd : decode M.2.1 pc = .ok (.ireturn, 1)) (hret : M.2.2.2 = some ty) (hn : narrow ty (.int v) = .int v) (hc : ce ≤ C) (hs : sl ≤ S) (hq : Q (some (.int v)) hp) : sV g M R (sZ g C S Q) pc lv [.int v] hp ce sl := by
  intro p e s m args below meth c H locs ls X r hl h
  obtain ⟨hx, hb, hr, hml, hown, hts, hK, hlk, hlw, hnm⟩ := id X
  exact W.widen hc hs (W.zret (v := v) hx hb (hr.trans hret) hn (fun t ht hW => ⟨some (.int v), hp, rfl, hq, by rw [ht]; exact r, hK.warm hW⟩) hl hd hlk)
theorem sv_lret {C S : Nat} {Q : Option Value → sHp → Prop} {v : Int64} (hd : decode M.2.1 pc = .ok (.lreturn, 1)) (hret : M.2.2.2 = some .long) (hc : ce ≤ C) (hs : sl ≤ S) (hq : Q (some (.long v)) hp) : sV g M R (sZ g C S Q) pc lv [.long v] hp ce sl := by
  intro p e s m args below meth c H locs ls X r hl h
  obtain ⟨hx, hb, hr, hml, hown, hts, hK, hlk, hlw, hnm⟩ := id X
  exact W.widen hc hs (W.lret (v := v) hx hb (hr.trans hret) (fun t ht hW => ⟨some (.long v), hp, rfl, hq, by rw [ht]; exact r, hK.warm hW⟩) hl hd hlk)
theorem sv_vret {C S : Nat} {Q : Option Value → sHp → Prop} (hd : decode M.2.1 pc = .ok (.return_, 1)) (hret : M.2.2.2 = none) (hc : ce ≤ C) (hs : sl ≤ S) (hq : Q none hp) : sV g M R (sZ g C S Q) pc lv [] hp ce sl := by
  intro p e s m args below meth c H locs ls X r hl h
  obtain ⟨hx, hb, hr, hml, hown, hts, hK, hlk, hlw, hnm⟩ := id X
  exact W.widen hc hs (W.vret hx hb (hr.trans hret) (fun t ht hW => ⟨none, hp, rfl, hq, by rw [ht]; exact r, hK.warm hW⟩) hl hd hlk)
theorem sv_aret {C S : Nat} {Q : Option Value → sHp → Prop} {a : Nat} {C0 : String} (hd : decode M.2.1 pc = .ok (.areturn, 1)) (hret : M.2.2.2 = some (.object C0)) (hc : ce ≤ C) (hs : sl ≤ S) (hq : Q (some (.ref a)) hp) : sV g M R (sZ g C S Q) pc lv [.ref a] hp ce sl := by
  intro p e s m args below meth c H locs ls X r hl h
  obtain ⟨hx, hb, hr, hml, hown, hts, hK, hlk, hlw, hnm⟩ := id X
  exact W.widen hc hs (W.aret (v := .ref (sg_b g + a)) hx hb (hr.trans hret) (Or.inl ⟨_, rfl⟩) (Or.inr ⟨_, rfl⟩) (fun t ht hW => ⟨some (.ref a), hp, rfl, hq, by rw [ht]; exact r, hK.warm hW⟩) hl hd hlk)
end SVA
end
section
/-! The layer's rules: calls. -/
/-- all words are good ones -/
def sOk (g : sG) : Prop := ∀ w ∈ sg_ws g, (w.onTables && w.keeps) = true ∨ ∃ ty, w = .arrayClass ty
/-- a method that can be called: its code and its class's state are among the words; n parameters -/
def sMt (g : sG) (M : sM) (n : Nat) : Prop := Cond.code M.1 M.2.1 M.2.2.1 M.2.2.2 ∈ sg_ws g ∧ Cond.initialized M.1.cls ∈ sg_ws g ∧ (M.1.cls ≠ "java/lang/invoke/MethodHandle" ∧ M.1.cls ≠ "java/lang/invoke/VarHandle" ∧ (parseMethodDescriptor M.1.desc).map (fun d => d.parameters.length) = some n)
theorem sGood {g : sG} {M' : sM} (ho : sOk g) (hc : Cond.code M'.1 M'.2.1 M'.2.2.1 M'.2.2.2 ∈ sg_ws g) : GoodIn (sg_ws g) (sWs g M') := by
  intro w hw
  rcases List.mem_cons.mp hw with rfl | hw
  · exact ⟨hc, ho _ hc⟩
  · exact ⟨hw, ho _ hw⟩
section SVC
variable {g : sG} {M M' : sM} {R : Room} {Z : sZT} {d' C' S' : Nat} {Q' : Option Value → sHp → Prop} {pc : Nat} {lv : List (Nat × Value)} {st st0 av : List Value} {hp : sHp} {ce sl : Nat}
theorem sBlind : FrameBlind (fun (a : Array Value) (U : State) => a = (av.map (rv (sg_r g))).toArray ∧ sR g hp U.heap ∧ sK g U) := fun a U g2 mk q => ⟨q.1, q.2.1, sK.same (u := U) (U := U.calling g2 mk a) rfl q.2.2⟩
theorem sGo {p : Program} {e : Env} {s : State} {m : MethodId} {args : Array Value} {below : List Frame} {meth : Method} {c : Code} {H : Heap} {locs : List Loc} {ls : Array Slot} {a : Array Value}
    (hr : va_Run p g.1 e R s m args below meth c H locs ce sl C' S' (F0 m pc ls (st0.map (rv (sg_r g)))) (st.map (rv (sg_r g))) (sQ g Q' a) (fun q => sg_b g ≤ q)) (X : sX g M p s m args meth c) (hl : ∀ q ∈ locs, sg_b g ≤ q.base) (h : sHas (sg_r g) ls M.2.2.1 lv)
    (kk : ∀ (r : Option Value) (hp' : sHp), Q' r hp' → sV g M R Z (pc + 3) lv (r.toList ++ st) hp' (ce + C') (sl + S')) : W p g.1 e R s m args below meth c H locs ce sl (Z below args s) (F0 m pc ls (st0.map (rv (sg_r g)))) := by
  intro T hT X1
  obtain ⟨v, st₀, t, T', L, h0, X', hL, e1, e2, ⟨r, hp', hv, hq, hR, hK⟩, stp⟩ := hr T hT X1
  cases hv
  obtain ⟨t2, a1, b1⟩ := kk r hp' hq p e s m args below meth c T'.heap (locs ++ L) ls X (by rw [e1]; exact hR) (fun q hq => by
    rcases List.mem_append.mp hq with h | h
    · exact hl q h
    · exact hL q h) h T' rfl X'
  refine ⟨t2, stp t2 ?_, b1⟩
  have he : ((r.map (rv (sg_r g))).toList ++ st.map (rv (sg_r g))) = (r.toList ++ st).map (rv (sg_r g)) := by cases r <;> rfl
  rw [he]
  exact a1
theorem sRoom {st : List Value} {b : Nat × Nat} (h : (st.map fun v => v.category).sum ≤ 8) : ((st.map (rv b)).map fun v => v.category).sum ≤ 8 := by
  rw [List.map_map]
  have : ((fun v : Value => v.category) ∘ rv b) = fun v => v.category := by funext v; exact rv_cat b v
  rw [this]; exact h
theorem sv_callV {index ci a : Nat} {T : vw_C} {ty : Nat → FieldType} {fs : List Value} (hct : sC g M' d' C' S' (.ref a :: av) hp Q') (ho : sOk g) (hd : decode M.2.1 pc = .ok (.invokevirtual index, 3)) (hm : sMt g M' av.length) (hi : Cond.instanceMethod M'.1 ∈ sg_ws g ∧ Cond.selects M'.1.cls M'.1 M'.1 ∈ sg_ws g) (hlk : Cond.methodLink M.1.cls index M'.1 ∈ sg_ws g) (hC : sCl g ci T ty) (hT : T.1 = M'.1.cls) (ha : a < hp.1) (he : hp.2 a = .inr (ci, fs)) (hR : d' + 1 ≤ R.frames ∧ 60 * d' + M'.2.2.1 + 19 ≤ R.locals) (hf : ce + C' ≤ R.cells ∧ sl + S' ≤ R.slots) (hs : st0 = av.reverse ++ .ref a :: st) (hr8 : (st.map fun v => v.category).sum ≤ 8)
    (kk : ∀ (r : Option Value) (hp' : sHp), Q' r hp' → sV g M R Z (pc + 3) lv (r.toList ++ st) hp' (ce + C') (sl + S')) : sV g M R Z pc lv st0 hp ce sl := by
  subst hs
  intro p e s m args below meth c H locs ls X r hl h
  obtain ⟨hx, hb, hr, hml, hown, hts, hK, hlk2, hlw, hnm⟩ := id X
  have h0 := r.2.1 a ha
  rw [he] at h0
  obtain ⟨r', h1, ⟨cell, q1, q2, q3, q4⟩, -⟩ := h0
  have hr' : r' = T := Option.some.inj (h1.symm.trans hC.1)
  subst hr'
  have hrun := va_runV (g := F0 m pc ls ((av.reverse ++ .ref a :: st).map (rv (sg_r g)))) (b := sg_b g + a) (As := av.map (rv (sg_r g))) (rest := st.map (rv (sg_r g))) (H := H) (locs := locs) (cells := ce) (slots := sl) (below := below) (meth := meth) (e := e) ⟨hx, hb, hml, hown, hts⟩ hct
    (⟨callB_of av.length hts (sGood ho hm.1) rfl rfl rfl (hts _ hm.2.1) (hts _ hlk) hm.2.2 ⟨hR.1, by show 8 + (M'.2.2.1 + 11) + 60 * d' ≤ R.locals; omega⟩, hts _ hi.1, hts _ hi.2⟩ : CallW R s args M.1.cls M'.1.cls index M'.1 M'.2.1 M'.2.2.1 M'.2.2.2 (sWs g M') (sRm d' C' S') C' S' av.length)
    ⟨sBlind, ⟨cell, q1, by rw [q3]; rfl, by rw [q2, ← hT]; exact (hK.1.1 ci _ hC.1).2.1⟩, fun U hU hW => ⟨rfl, by rw [hU]; exact r, hK.warm hW⟩⟩ rfl (by simp) h.1 (by simp [rv]) (lv_room (sRoom hr8)) hd hf
  exact sGo hrun X hl h kk
theorem sv_callS {index : Nat} (hct : sC g M' d' C' S' av hp Q') (ho : sOk g) (hd : decode M.2.1 pc = .ok (.invokestatic index, 3)) (hm : sMt g M' av.length) (hi : Cond.static M'.1 ∈ sg_ws g) (hlk : Cond.methodLink M.1.cls index M'.1 ∈ sg_ws g) (hR : d' + 1 ≤ R.frames ∧ 60 * d' + M'.2.2.1 + 19 ≤ R.locals) (hf : ce + C' ≤ R.cells ∧ sl + S' ≤ R.slots) (hs : st0 = av.reverse ++ st) (hr8 : (st.map fun v => v.category).sum ≤ 8)
    (kk : ∀ (r : Option Value) (hp' : sHp), Q' r hp' → sV g M R Z (pc + 3) lv (r.toList ++ st) hp' (ce + C') (sl + S')) : sV g M R Z pc lv st0 hp ce sl := by
  subst hs
  intro p e s m args below meth c H locs ls X r hl h
  obtain ⟨hx, hb, hr, hml, hown, hts, hK, hlk2, hlw, hnm⟩ := id X
  have hrun := va_runS (g := F0 m pc ls ((av.reverse ++ st).map (rv (sg_r g)))) (As := av.map (rv (sg_r g))) (rest := st.map (rv (sg_r g))) (H := H) (locs := locs) (cells := ce) (slots := sl) (below := below) (meth := meth) (e := e) ⟨hx, hb, hml, hown, hts⟩ hct
    (⟨callB_of av.length hts (sGood ho hm.1) rfl rfl rfl (hts _ hm.2.1) (hts _ hlk) hm.2.2 ⟨hR.1, by show 8 + (M'.2.2.1 + 11) + 60 * d' ≤ R.locals; omega⟩, hts _ hi⟩ : CallB R s args M.1.cls index M'.1 M'.2.1 M'.2.2.1 M'.2.2.2 (sWs g M') (sRm d' C' S') C' S' av.length ∧ (Cond.static M'.1).before args s = true)
    ⟨sBlind, fun U hU hW => ⟨rfl, by rw [hU]; exact r, hK.warm hW⟩⟩ rfl (by simp) h.1 (by simp) (lv_room (sRoom hr8)) hd hf
  exact sGo hrun X hl h kk
theorem sv_callI {index a : Nat} (hct : sC g M' d' C' S' (.ref a :: av) hp Q') (ho : sOk g) (hd : decode M.2.1 pc = .ok (.invokespecial index, 3)) (hm : sMt g M' av.length) (hret : M'.2.2.2 = none) (hy1 : M'.1.name = "<init>") (hi : Cond.instanceMethod M'.1 ∈ sg_ws g) (hlk : Cond.methodLink M.1.cls index M'.1 ∈ sg_ws g) (hR : d' + 1 ≤ R.frames ∧ 60 * d' + M'.2.2.1 + 19 ≤ R.locals) (hf : ce + C' ≤ R.cells ∧ sl + S' ≤ R.slots) (hs : st0 = av.reverse ++ .ref a :: st) (hr8 : (st.map fun v => v.category).sum ≤ 8)
    (kk : ∀ (r : Option Value) (hp' : sHp), Q' r hp' → sV g M R Z (pc + 3) lv (r.toList ++ st) hp' (ce + C') (sl + S')) : sV g M R Z pc lv st0 hp ce sl := by
  subst hs
  intro p e s m args below meth c H locs ls X r hl h
  obtain ⟨hx, hb, hr, hml, hown, hts, hK, hlk2, hlw, hnm⟩ := id X
  have hcode : Cond.code M'.1 M'.2.1 M'.2.2.1 none ∈ sg_ws g := by rw [← hret]; exact hm.1
  have hw : sWs g M' = Cond.code M'.1 M'.2.1 M'.2.2.1 none :: sg_ws g := by rw [← hret]; rfl
  have hrun := va_runI (g := F0 m pc ls ((av.reverse ++ .ref a :: st).map (rv (sg_r g)))) (b := sg_b g + a) (As := av.map (rv (sg_r g))) (rest := st.map (rv (sg_r g))) (H := H) (locs := locs) (cells := ce) (slots := sl) (below := below) (meth := meth) (e := e) ⟨hx, hb, hml, hown, hts⟩ hct
    (⟨callB_of av.length hts (sGood ho hm.1) hw rfl rfl (hts _ hm.2.1) (hts _ hlk) hm.2.2 ⟨hR.1, by show 8 + (M'.2.2.1 + 11) + 60 * d' ≤ R.locals; omega⟩, hy1, hts _ hi⟩ : CallB R s args M.1.cls index M'.1 M'.2.1 M'.2.2.1 none (sWs g M') (sRm d' C' S') C' S' av.length ∧ M'.1.name = "<init>" ∧ (Cond.instanceMethod M'.1).before args s = true)
    ⟨sBlind, fun U hU hW => ⟨rfl, by rw [hU]; exact r, hK.warm hW⟩⟩ rfl (by simp) h.1 (by simp [rv]) (lv_room (sRoom hr8)) hd hf
  exact sGo hrun X hl h kk
theorem sv_objinit {index a : Nat} (hd : decode M.2.1 pc = .ok (.invokespecial index, 3)) (hlk : Cond.methodLink M.1.cls index objectInit ∈ sg_ws g) (hi : Cond.instanceMethod objectInit ∈ sg_ws g) (hc : Cond.code objectInit ⟨#[0xb1]⟩ 1 none ∈ sg_ws g) (hd1 : 1 ≤ R.frames ∧ 20 ≤ R.locals) (hr8 : (st.map fun v => v.category).sum ≤ 8)
    (kk : sV g M R Z (pc + 3) lv st hp ce sl) : sV g M R Z pc lv (.ref a :: st) hp ce sl := by
  intro p e s m args below meth c H locs ls X r hl h
  obtain ⟨hx, hb, hr, hml, hown, hts, hK, hlk2, hlw, hnm⟩ := id X
  refine W.objInit hx hb hown (hts _ hlk) (hts _ hi) (hts _ hc) rfl (by rw [hml]; exact h.1) rfl hd hd1.1 ?_ (kk p e s m args below meth c H locs ls X r hl h)
  have h8 := lv_room (m := m) (pc := pc) (ls := ls) (rest := (Value.ref a :: st).map (rv (sg_r g))) (sRoom (b := sg_r g) hr8)
  have := hd1.2
  omega
end SVC
end
section
def RX0 : String := "DomainHouse$Domain"
def TX0 : u_T := fun k => match k with
  | 0 => ("DomainHouse$Domain", "steps", "[I", true)
  | 1 => ("DomainHouse$Domain", "begun", "[I", true)
  | 2 => ("DomainHouse$Domain", "pickedTie", "[I", true)
  | 3 => ("DomainHouse$Domain", "picked", "[LDomainHouse$Route;", true)
  | 4 => ("DomainHouse$Domain", "stepCount", "I", false)
  | _ => ("DomainHouse$Domain", "grouped", "Z", false)
def tyX0 : Nat → FieldType := fun k => match k with
  | 0 => .array .int
  | 1 => .array .int
  | 2 => .array .int
  | 3 => .array (.object "DomainHouse$Route")
  | 4 => .int
  | _ => .boolean
theorem nmX0 : ∀ a, a < 6 → ∀ b, b < 6 → a ≠ b → (TX0 a).2.1 ≠ (TX0 b).2.1 := by decide +kernel
theorem tyX0_ok : ∀ k, k < 6 → parseFieldDescriptor (TX0 k).2.2.1 = some (tyX0 k) := by decide +kernel
abbrev cX0_init : ByteArray := prog_2_method_1_code
def yX0_init : MethodName := ⟨RX0, "<init>", "()V"⟩
abbrev cX0_goBy : ByteArray := prog_2_method_2_code
def yX0_goBy : MethodName := ⟨RX0, "goBy", "(IZ)V"⟩
abbrev cX0_firstUnlikeStep : ByteArray := prog_2_method_3_code
def yX0_firstUnlikeStep : MethodName := ⟨RX0, "firstUnlikeStep", "(LDomainHouse$Route;LDomainHouse$Route;)I"⟩
abbrev cX0_prefers : ByteArray := prog_2_method_4_code
def yX0_prefers : MethodName := ⟨RX0, "prefers", "(LDomainHouse$Route;LDomainHouse$Route;)Z"⟩
abbrev cX0_compareAt : ByteArray := prog_2_method_5_code
def yX0_compareAt : MethodName := ⟨RX0, "compareAt", "(ILDomainHouse$Route;LDomainHouse$Route;)I"⟩
def RX1 : String := "DomainHouse$Judge"
def TX1 : u_T := fun k => match k with
  | 0 => ("DomainHouse$Judge", "world", "LDomainHouse$World;", true)
  | 1 => ("DomainHouse$Judge", "texts", "[LDomainHouse$Policy;", true)
  | 2 => ("DomainHouse$Judge", "route", "LDomainHouse$Route;", false)
  | 3 => ("DomainHouse$Judge", "domain", "I", false)
  | 4 => ("DomainHouse$Judge", "partner", "I", false)
  | 5 => ("DomainHouse$Judge", "role", "I", false)
  | 6 => ("DomainHouse$Judge", "acts", "I", false)
  | 7 => ("DomainHouse$Judge", "ending", "I", false)
  | _ => ("DomainHouse$Judge", "policies", "I", false)
def tyX1 : Nat → FieldType := fun k => match k with
  | 0 => .object "DomainHouse$World"
  | 1 => .array (.object "DomainHouse$Policy")
  | 2 => .object "DomainHouse$Route"
  | 3 => .int
  | 4 => .int
  | 5 => .int
  | 6 => .int
  | 7 => .int
  | _ => .int
theorem nmX1 : ∀ a, a < 9 → ∀ b, b < 9 → a ≠ b → (TX1 a).2.1 ≠ (TX1 b).2.1 := by decide +kernel
theorem tyX1_ok : ∀ k, k < 9 → parseFieldDescriptor (TX1 k).2.2.1 = some (tyX1 k) := by decide +kernel
abbrev cX1_init : ByteArray := prog_3_method_1_code
def yX1_init : MethodName := ⟨RX1, "<init>", "(LDomainHouse$World;)V"⟩
abbrev cX1_addPolicy : ByteArray := prog_3_method_2_code
def yX1_addPolicy : MethodName := ⟨RX1, "addPolicy", "(LDomainHouse$Policy;)I"⟩
abbrev cX1_lets : ByteArray := prog_3_method_3_code
def yX1_lets : MethodName := ⟨RX1, "lets", "(ILDomainHouse$Route;LDomainHouse$Tie;I)Z"⟩
abbrev cX1_goThrough : ByteArray := prog_3_method_4_code
def yX1_goThrough : MethodName := ⟨RX1, "goThrough", "(II)V"⟩
abbrev cX1_isSo : ByteArray := prog_3_method_5_code
def yX1_isSo : MethodName := ⟨RX1, "isSo", "(LDomainHouse$Policy;I)Z"⟩
abbrev cX1_doActs : ByteArray := prog_3_method_6_code
def yX1_doActs : MethodName := ⟨RX1, "doActs", "([IIII)V"⟩
def RX2 : String := "DomainHouse$Letters"
def TX2 : u_T := fun k => match k with
  | 0 => ("DomainHouse$Letters", "world", "LDomainHouse$World;", true)
  | 1 => ("DomainHouse$Letters", "stops", "[I", true)
  | 2 => ("DomainHouse$Letters", "demandFrom", "[I", true)
  | 3 => ("DomainHouse$Letters", "demandAddress", "[I", true)
  | 4 => ("DomainHouse$Letters", "demandUnits", "[I", true)
  | 5 => ("DomainHouse$Letters", "border", "[J", true)
  | 6 => ("DomainHouse$Letters", "stopCount", "I", false)
  | 7 => ("DomainHouse$Letters", "entries", "I", false)
  | 8 => ("DomainHouse$Letters", "ledTo", "[I", true)
  | 9 => ("DomainHouse$Letters", "ledCount", "I", false)
  | _ => ("DomainHouse$Letters", "demands", "I", false)
def tyX2 : Nat → FieldType := fun k => match k with
  | 0 => .object "DomainHouse$World"
  | 1 => .array .int
  | 2 => .array .int
  | 3 => .array .int
  | 4 => .array .int
  | 5 => .array .long
  | 6 => .int
  | 7 => .int
  | 8 => .array .int
  | 9 => .int
  | _ => .int
theorem nmX2 : ∀ a, a < 11 → ∀ b, b < 11 → a ≠ b → (TX2 a).2.1 ≠ (TX2 b).2.1 := by decide +kernel
theorem tyX2_ok : ∀ k, k < 11 → parseFieldDescriptor (TX2 k).2.2.1 = some (tyX2 k) := by decide +kernel
abbrev cX2_init : ByteArray := prog_4_method_1_code
def yX2_init : MethodName := ⟨RX2, "<init>", "(LDomainHouse$World;)V"⟩
abbrev cX2_tieFor : ByteArray := prog_4_method_2_code
def yX2_tieFor : MethodName := ⟨RX2, "tieFor", "(II)I"⟩
abbrev cX2_partnerFor : ByteArray := prog_4_method_3_code
def yX2_partnerFor : MethodName := ⟨RX2, "partnerFor", "(II)I"⟩
abbrev cX2_travel : ByteArray := prog_4_method_4_code
def yX2_travel : MethodName := ⟨RX2, "travel", "(II)I"⟩
abbrev cX2_send : ByteArray := prog_4_method_5_code
def yX2_send : MethodName := ⟨RX2, "send", "(II)I"⟩
abbrev cX2_addDemand : ByteArray := prog_4_method_6_code
def yX2_addDemand : MethodName := ⟨RX2, "addDemand", "(III)I"⟩
abbrev cX2_unitsOver : ByteArray := prog_4_method_7_code
def yX2_unitsOver : MethodName := ⟨RX2, "unitsOver", "(II)I"⟩
abbrev cX2_unitsThat : ByteArray := prog_4_method_8_code
def yX2_unitsThat : MethodName := ⟨RX2, "unitsThat", "(I)I"⟩
abbrev cX2_leastTable : ByteArray := prog_4_method_9_code
def yX2_leastTable : MethodName := ⟨RX2, "leastTable", "(I)I"⟩
abbrev cX2_leastBelow : ByteArray := prog_4_method_10_code
def yX2_leastBelow : MethodName := ⟨RX2, "leastBelow", "(III)I"⟩
abbrev cX2_isSplit : ByteArray := prog_4_method_11_code
def yX2_isSplit : MethodName := ⟨RX2, "isSplit", "(III)Z"⟩
abbrev cX2_aimBit : ByteArray := prog_4_method_12_code
def yX2_aimBit : MethodName := ⟨RX2, "aimBit", "(I)I"⟩
abbrev cX2_unlikeAddresses : ByteArray := prog_4_method_13_code
def yX2_unlikeAddresses : MethodName := ⟨RX2, "unlikeAddresses", "(II)J"⟩
abbrev cX2_layBorders : ByteArray := prog_4_method_14_code
def yX2_layBorders : MethodName := ⟨RX2, "layBorders", "()I"⟩
abbrev cX2_insertBorder : ByteArray := prog_4_method_15_code
def yX2_insertBorder : MethodName := ⟨RX2, "insertBorder", "(JI)V"⟩
def RX3 : String := "DomainHouse$Message"
def TX3 : u_T := fun k => match k with
  | 0 => ("DomainHouse$Message", "seen", "[I", true)
  | 1 => ("DomainHouse$Message", "carried", "[I", true)
  | 2 => ("DomainHouse$Message", "marks", "[I", true)
  | 3 => ("DomainHouse$Message", "faultPlace", "[I", true)
  | 4 => ("DomainHouse$Message", "octets", "[I", false)
  | 5 => ("DomainHouse$Message", "carriedCount", "I", false)
  | 6 => ("DomainHouse$Message", "markCount", "I", false)
  | 7 => ("DomainHouse$Message", "hasOrigin", "Z", false)
  | 8 => ("DomainHouse$Message", "hasWay", "Z", false)
  | 9 => ("DomainHouse$Message", "route", "LDomainHouse$Route;", true)
  | 10 => ("DomainHouse$Message", "address", "[I", true)
  | 11 => ("DomainHouse$Message", "length", "[I", true)
  | 12 => ("DomainHouse$Message", "written", "[I", true)
  | 13 => ("DomainHouse$Message", "withdrawn", "I", false)
  | 14 => ("DomainHouse$Message", "announced", "I", false)
  | 15 => ("DomainHouse$Message", "writtenSize", "I", false)
  | _ => ("DomainHouse$Message", "taken", "Z", false)
def tyX3 : Nat → FieldType := fun k => match k with
  | 0 => .array .int
  | 1 => .array .int
  | 2 => .array .int
  | 3 => .array .int
  | 4 => .array .int
  | 5 => .int
  | 6 => .int
  | 7 => .boolean
  | 8 => .boolean
  | 9 => .object "DomainHouse$Route"
  | 10 => .array .int
  | 11 => .array .int
  | 12 => .array .int
  | 13 => .int
  | 14 => .int
  | 15 => .int
  | _ => .boolean
theorem nmX3 : ∀ a, a < 17 → ∀ b, b < 17 → a ≠ b → (TX3 a).2.1 ≠ (TX3 b).2.1 := by decide +kernel
theorem tyX3_ok : ∀ k, k < 17 → parseFieldDescriptor (TX3 k).2.2.1 = some (tyX3 k) := by decide +kernel
abbrev cX3_init : ByteArray := prog_5_method_1_code
def yX3_init : MethodName := ⟨RX3, "<init>", "()V"⟩
abbrev cX3_read : ByteArray := prog_5_method_2_code
def yX3_read : MethodName := ⟨RX3, "read", "([II)I"⟩
abbrev cX3_forget : ByteArray := prog_5_method_3_code
def yX3_forget : MethodName := ⟨RX3, "forget", "()V"⟩
abbrev cX3_readParts : ByteArray := prog_5_method_4_code
def yX3_readParts : MethodName := ⟨RX3, "readParts", "(I)V"⟩
abbrev cX3_note : ByteArray := prog_5_method_5_code
def yX3_note : MethodName := ⟨RX3, "note", "(II)V"⟩
abbrev cX3_pairAt : ByteArray := prog_5_method_6_code
def yX3_pairAt : MethodName := ⟨RX3, "pairAt", "(I)I"⟩
abbrev cX3_fourAt : ByteArray := prog_5_method_7_code
def yX3_fourAt : MethodName := ⟨RX3, "fourAt", "(I)I"⟩
abbrev cX3_readPrefixes : ByteArray := prog_5_method_8_code
def yX3_readPrefixes : MethodName := ⟨RX3, "readPrefixes", "(III)I"⟩
abbrev cX3_readAttributes : ByteArray := prog_5_method_9_code
def yX3_readAttributes : MethodName := ⟨RX3, "readAttributes", "(II)V"⟩
abbrev cX3_readAttribute : ByteArray := prog_5_method_10_code
def yX3_readAttribute : MethodName := ⟨RX3, "readAttribute", "(III)V"⟩
abbrev cX3_carry : ByteArray := prog_5_method_11_code
def yX3_carry : MethodName := ⟨RX3, "carry", "(II)V"⟩
abbrev cX3_readOrigin : ByteArray := prog_5_method_12_code
def yX3_readOrigin : MethodName := ⟨RX3, "readOrigin", "(II)Z"⟩
abbrev cX3_readCost : ByteArray := prog_5_method_13_code
def yX3_readCost : MethodName := ⟨RX3, "readCost", "(II)Z"⟩
abbrev cX3_readMarks : ByteArray := prog_5_method_14_code
def yX3_readMarks : MethodName := ⟨RX3, "readMarks", "(II)Z"⟩
abbrev cX3_keepMark : ByteArray := prog_5_method_15_code
def yX3_keepMark : MethodName := ⟨RX3, "keepMark", "(I)V"⟩
abbrev cX3_readWay : ByteArray := prog_5_method_16_code
def yX3_readWay : MethodName := ⟨RX3, "readWay", "(II)Z"⟩
abbrev cX3_sortWithoutSign : ByteArray := prog_5_method_17_code
def yX3_sortWithoutSign : MethodName := ⟨RX3, "sortWithoutSign", "([III)V"⟩
abbrev cX3_told : ByteArray := prog_5_method_18_code
def yX3_told : MethodName := ⟨RX3, "told", "(I)I"⟩
abbrev cX3_placeTold : ByteArray := prog_5_method_19_code
def yX3_placeTold : MethodName := ⟨RX3, "placeTold", "()I"⟩
abbrev cX3_toldInAll : ByteArray := prog_5_method_20_code
def yX3_toldInAll : MethodName := ⟨RX3, "toldInAll", "(I)I"⟩
abbrev cX3_toldOfRow : ByteArray := prog_5_method_21_code
def yX3_toldOfRow : MethodName := ⟨RX3, "toldOfRow", "(I)I"⟩
abbrev cX3_putDown : ByteArray := prog_5_method_22_code
def yX3_putDown : MethodName := ⟨RX3, "putDown", "(LDomainHouse$Route;II)I"⟩
abbrev cX3_putAttributes : ByteArray := prog_5_method_23_code
def yX3_putAttributes : MethodName := ⟨RX3, "putAttributes", "(LDomainHouse$Route;)V"⟩
abbrev cX3_putHead : ByteArray := prog_5_method_24_code
def yX3_putHead : MethodName := ⟨RX3, "putHead", "(III)V"⟩
abbrev cX3_putPrefix : ByteArray := prog_5_method_25_code
def yX3_putPrefix : MethodName := ⟨RX3, "putPrefix", "(II)V"⟩
abbrev cX3_putNumber : ByteArray := prog_5_method_26_code
def yX3_putNumber : MethodName := ⟨RX3, "putNumber", "(II)V"⟩
def RX4 : String := "DomainHouse$Net"
def TX4 : u_T := fun k => match k with
  | 0 => ("DomainHouse$Net", "ways", "[I", true)
  | 1 => ("DomainHouse$Net", "lengths", "[I", true)
  | 2 => ("DomainHouse$Net", "neededPlace", "[I", true)
  | 3 => ("DomainHouse$Net", "neededWay", "[I", true)
  | 4 => ("DomainHouse$Net", "weight", "[I", true)
  | 5 => ("DomainHouse$Net", "has", "[I", true)
  | 6 => ("DomainHouse$Net", "queue", "[I", false)
  | 7 => ("DomainHouse$Net", "restState", "[I", false)
  | 8 => ("DomainHouse$Net", "flags", "[B", false)
  | 9 => ("DomainHouse$Net", "states", "I", false)
  | 10 => ("DomainHouse$Net", "restsKnown", "Z", false)
  | 11 => ("DomainHouse$Net", "explored", "Z", false)
  | 12 => ("DomainHouse$Net", "wishes", "[I", true)
  | 13 => ("DomainHouse$Net", "found", "[I", true)
  | _ => ("DomainHouse$Net", "restCount", "I", false)
def tyX4 : Nat → FieldType := fun k => match k with
  | 0 => .array .int
  | 1 => .array .int
  | 2 => .array .int
  | 3 => .array .int
  | 4 => .array .int
  | 5 => .array .int
  | 6 => .array .int
  | 7 => .array .int
  | 8 => .array .byte
  | 9 => .int
  | 10 => .boolean
  | 11 => .boolean
  | 12 => .array .int
  | 13 => .array .int
  | _ => .int
theorem nmX4 : ∀ a, a < 15 → ∀ b, b < 15 → a ≠ b → (TX4 a).2.1 ≠ (TX4 b).2.1 := by decide +kernel
theorem tyX4_ok : ∀ k, k < 15 → parseFieldDescriptor (TX4 k).2.2.1 = some (tyX4 k) := by decide +kernel
abbrev cX4_init : ByteArray := prog_6_method_1_code
def yX4_init : MethodName := ⟨RX4, "<init>", "()V"⟩
abbrev cX4_isWish : ByteArray := prog_6_method_2_code
def yX4_isWish : MethodName := ⟨RX4, "isWish", "([II)Z"⟩
abbrev cX4_find : ByteArray := prog_6_method_3_code
def yX4_find : MethodName := ⟨RX4, "find", "([III)I"⟩
abbrev cX4_addWish : ByteArray := prog_6_method_4_code
def yX4_addWish : MethodName := ⟨RX4, "addWish", "([II)I"⟩
abbrev cX4_forget : ByteArray := prog_6_method_5_code
def yX4_forget : MethodName := ⟨RX4, "forget", "()I"⟩
abbrev cX4_prepare : ByteArray := prog_6_method_6_code
def yX4_prepare : MethodName := ⟨RX4, "prepare", "()V"⟩
abbrev cX4_need : ByteArray := prog_6_method_7_code
def yX4_need : MethodName := ⟨RX4, "need", "(I)V"⟩
abbrev cX4_actOf : ByteArray := prog_6_method_8_code
def yX4_actOf : MethodName := ⟨RX4, "actOf", "(I)I"⟩
abbrev cX4_isRest : ByteArray := prog_6_method_9_code
def yX4_isRest : MethodName := ⟨RX4, "isRest", "()Z"⟩
abbrev cX4_unfold : ByteArray := prog_6_method_10_code
def yX4_unfold : MethodName := ⟨RX4, "unfold", "(I)V"⟩
abbrev cX4_figure : ByteArray := prog_6_method_11_code
def yX4_figure : MethodName := ⟨RX4, "figure", "(II)I"⟩
abbrev cX4_countUp : ByteArray := prog_6_method_12_code
def yX4_countUp : MethodName := ⟨RX4, "countUp", "()V"⟩
abbrev cX4_findRests : ByteArray := prog_6_method_13_code
def yX4_findRests : MethodName := ⟨RX4, "findRests", "()V"⟩
abbrev cX4_keepRest : ByteArray := prog_6_method_14_code
def yX4_keepRest : MethodName := ⟨RX4, "keepRest", "(I)V"⟩
abbrev cX4_wayInRest : ByteArray := prog_6_method_15_code
def yX4_wayInRest : MethodName := ⟨RX4, "wayInRest", "(II)I"⟩
abbrev cX4_explore : ByteArray := prog_6_method_16_code
def yX4_explore : MethodName := ⟨RX4, "explore", "()V"⟩
abbrev cX4_makeRoom : ByteArray := prog_6_method_17_code
def yX4_makeRoom : MethodName := ⟨RX4, "makeRoom", "()V"⟩
abbrev cX4_spread : ByteArray := prog_6_method_18_code
def yX4_spread : MethodName := ⟨RX4, "spread", "()I"⟩
abbrev cX4_addNeighbours : ByteArray := prog_6_method_19_code
def yX4_addNeighbours : MethodName := ⟨RX4, "addNeighbours", "(II)I"⟩
abbrev cX4_leadBack : ByteArray := prog_6_method_20_code
def yX4_leadBack : MethodName := ⟨RX4, "leadBack", "()I"⟩
abbrev cX4_addSources : ByteArray := prog_6_method_21_code
def yX4_addSources : MethodName := ⟨RX4, "addSources", "(II)I"⟩
def RX5 : String := "DomainHouse$Policy"
def TX5 : u_T := fun k => match k with
  | 0 => ("DomainHouse$Policy", "rows", "I", true)
  | 1 => ("DomainHouse$Policy", "code", "[I", true)
  | 2 => ("DomainHouse$Policy", "places", "[I", true)
  | 3 => ("DomainHouse$Policy", "next", "[J", true)
  | 4 => ("DomainHouse$Policy", "first", "[J", true)
  | _ => ("DomainHouse$Policy", "last", "[J", true)
def tyX5 : Nat → FieldType := fun k => match k with
  | 0 => .int
  | 1 => .array .int
  | 2 => .array .int
  | 3 => .array .long
  | 4 => .array .long
  | _ => .array .long
theorem nmX5 : ∀ a, a < 6 → ∀ b, b < 6 → a ≠ b → (TX5 a).2.1 ≠ (TX5 b).2.1 := by decide +kernel
theorem tyX5_ok : ∀ k, k < 6 → parseFieldDescriptor (TX5 k).2.2.1 = some (tyX5 k) := by decide +kernel
abbrev cX5_init : ByteArray := prog_7_method_1_code
def yX5_init : MethodName := ⟨RX5, "<init>", "(I[I[I[J[J[J)V"⟩
abbrev cX5_tells : ByteArray := prog_7_method_2_code
def yX5_tells : MethodName := ⟨RX5, "tells", "(IZLDomainHouse$Route;)Z"⟩
def RX6 : String := "DomainHouse$Reader"
def TX6 : u_T := fun k => match k with
  | 0 => ("DomainHouse$Reader", "token", "[I", true)
  | 1 => ("DomainHouse$Reader", "value", "[I", true)
  | 2 => ("DomainHouse$Reader", "place", "[I", true)
  | 3 => ("DomainHouse$Reader", "code", "[I", true)
  | 4 => ("DomainHouse$Reader", "places", "[I", true)
  | 5 => ("DomainHouse$Reader", "next", "[J", true)
  | 6 => ("DomainHouse$Reader", "first", "[J", true)
  | 7 => ("DomainHouse$Reader", "last", "[J", true)
  | 8 => ("DomainHouse$Reader", "end", "I", false)
  | 9 => ("DomainHouse$Reader", "at", "I", false)
  | 10 => ("DomainHouse$Reader", "rows", "I", false)
  | 11 => ("DomainHouse$Reader", "codeSize", "I", false)
  | 12 => ("DomainHouse$Reader", "placeCount", "I", false)
  | 13 => ("DomainHouse$Reader", "ways", "I", false)
  | 14 => ("DomainHouse$Reader", "callable", "I", false)
  | 15 => ("DomainHouse$Reader", "partEmpty", "Z", false)
  | 16 => ("DomainHouse$Reader", "partFirst", "J", false)
  | 17 => ("DomainHouse$Reader", "partLast", "J", false)
  | 18 => ("DomainHouse$Reader", "fault", "I", false)
  | _ => ("DomainHouse$Reader", "faultPlace", "I", false)
def tyX6 : Nat → FieldType := fun k => match k with
  | 0 => .array .int
  | 1 => .array .int
  | 2 => .array .int
  | 3 => .array .int
  | 4 => .array .int
  | 5 => .array .long
  | 6 => .array .long
  | 7 => .array .long
  | 8 => .int
  | 9 => .int
  | 10 => .int
  | 11 => .int
  | 12 => .int
  | 13 => .int
  | 14 => .int
  | 15 => .boolean
  | 16 => .long
  | 17 => .long
  | 18 => .int
  | _ => .int
theorem nmX6 : ∀ a, a < 20 → ∀ b, b < 20 → a ≠ b → (TX6 a).2.1 ≠ (TX6 b).2.1 := by decide +kernel
theorem tyX6_ok : ∀ k, k < 20 → parseFieldDescriptor (TX6 k).2.2.1 = some (tyX6 k) := by decide +kernel
abbrev cX6_init : ByteArray := prog_8_method_1_code
def yX6_init : MethodName := ⟨RX6, "<init>", "()V"⟩
abbrev cX6_read : ByteArray := prog_8_method_2_code
def yX6_read : MethodName := ⟨RX6, "read", "([III)V"⟩
abbrev cX6_result : ByteArray := prog_8_method_3_code
def yX6_result : MethodName := ⟨RX6, "result", "()LDomainHouse$Policy;"⟩
abbrev cX6_split : ByteArray := prog_8_method_4_code
def yX6_split : MethodName := ⟨RX6, "split", "([II)V"⟩
abbrev cX6_isLetter : ByteArray := prog_8_method_5_code
def yX6_isLetter : MethodName := ⟨RX6, "isLetter", "(I)Z"⟩
abbrev cX6_isFigure : ByteArray := prog_8_method_6_code
def yX6_isFigure : MethodName := ⟨RX6, "isFigure", "(I)Z"⟩
abbrev cX6_putNumber : ByteArray := prog_8_method_7_code
def yX6_putNumber : MethodName := ⟨RX6, "putNumber", "([III)V"⟩
abbrev cX6_putToken : ByteArray := prog_8_method_8_code
def yX6_putToken : MethodName := ⟨RX6, "putToken", "(III)V"⟩
abbrev cX6_wordAt : ByteArray := prog_8_method_9_code
def yX6_wordAt : MethodName := ⟨RX6, "wordAt", "([III)I"⟩
abbrev cX6_fail : ByteArray := prog_8_method_10_code
def yX6_fail : MethodName := ⟨RX6, "fail", "(I)V"⟩
abbrev cX6_step : ByteArray := prog_8_method_11_code
def yX6_step : MethodName := ⟨RX6, "step", "()V"⟩
abbrev cX6_take : ByteArray := prog_8_method_12_code
def yX6_take : MethodName := ⟨RX6, "take", "(I)Z"⟩
abbrev cX6_expect : ByteArray := prog_8_method_13_code
def yX6_expect : MethodName := ⟨RX6, "expect", "(I)V"⟩
abbrev cX6_number : ByteArray := prog_8_method_14_code
def yX6_number : MethodName := ⟨RX6, "number", "(II)I"⟩
abbrev cX6_readRow : ByteArray := prog_8_method_15_code
def yX6_readRow : MethodName := ⟨RX6, "readRow", "()V"⟩
abbrev cX6_isAct : ByteArray := prog_8_method_16_code
def yX6_isAct : MethodName := ⟨RX6, "isAct", "(I)Z"⟩
abbrev cX6_readAct : ByteArray := prog_8_method_17_code
def yX6_readAct : MethodName := ⟨RX6, "readAct", "()V"⟩
abbrev cX6_readTest : ByteArray := prog_8_method_18_code
def yX6_readTest : MethodName := ⟨RX6, "readTest", "()V"⟩
abbrev cX6_isTest : ByteArray := prog_8_method_19_code
def yX6_isTest : MethodName := ⟨RX6, "isTest", "(I)Z"⟩
abbrev cX6_oneOf : ByteArray := prog_8_method_20_code
def yX6_oneOf : MethodName := ⟨RX6, "oneOf", "(II)I"⟩
abbrev cX6_verdictOf : ByteArray := prog_8_method_21_code
def yX6_verdictOf : MethodName := ⟨RX6, "verdictOf", "(I)I"⟩
abbrev cX6_relation : ByteArray := prog_8_method_22_code
def yX6_relation : MethodName := ⟨RX6, "relation", "()I"⟩
abbrev cX6_readHeldIn : ByteArray := prog_8_method_23_code
def yX6_readHeldIn : MethodName := ⟨RX6, "readHeldIn", "(I)V"⟩
abbrev cX6_readWay : ByteArray := prog_8_method_24_code
def yX6_readWay : MethodName := ⟨RX6, "readWay", "(I)V"⟩
abbrev cX6_readBranches : ByteArray := prog_8_method_25_code
def yX6_readBranches : MethodName := ⟨RX6, "readBranches", "(I)V"⟩
abbrev cX6_beginsPiece : ByteArray := prog_8_method_26_code
def yX6_beginsPiece : MethodName := ⟨RX6, "beginsPiece", "(I)Z"⟩
abbrev cX6_readGroup : ByteArray := prog_8_method_27_code
def yX6_readGroup : MethodName := ⟨RX6, "readGroup", "(I)V"⟩
abbrev cX6_readPlace : ByteArray := prog_8_method_28_code
def yX6_readPlace : MethodName := ⟨RX6, "readPlace", "()V"⟩
abbrev cX6_readRepeat : ByteArray := prog_8_method_29_code
def yX6_readRepeat : MethodName := ⟨RX6, "readRepeat", "()V"⟩
abbrev cX6_join : ByteArray := prog_8_method_30_code
def yX6_join : MethodName := ⟨RX6, "join", "(JJ)V"⟩
abbrev cX6_putTest : ByteArray := prog_8_method_31_code
def yX6_putTest : MethodName := ⟨RX6, "putTest", "(IIIII)V"⟩
abbrev cX6_put : ByteArray := prog_8_method_32_code
def yX6_put : MethodName := ⟨RX6, "put", "(I)V"⟩
def RX7 : String := "DomainHouse$Route"
def TX7 : u_T := fun k => match k with
  | 0 => ("DomainHouse$Route", "way", "[I", true)
  | 1 => ("DomainHouse$Route", "marks", "[I", true)
  | 2 => ("DomainHouse$Route", "there", "Z", false)
  | 3 => ("DomainHouse$Route", "prefix", "I", false)
  | 4 => ("DomainHouse$Route", "wish", "I", false)
  | 5 => ("DomainHouse$Route", "origin", "I", false)
  | 6 => ("DomainHouse$Route", "cost", "I", false)
  | 7 => ("DomainHouse$Route", "wayLength", "I", false)
  | 8 => ("DomainHouse$Route", "markCount", "I", false)
  | 9 => ("DomainHouse$Route", "when", "I", false)
  | 10 => ("DomainHouse$Route", "tie", "I", false)
  | _ => ("DomainHouse$Route", "partner", "I", false)
def tyX7 : Nat → FieldType := fun k => match k with
  | 0 => .array .int
  | 1 => .array .int
  | 2 => .boolean
  | 3 => .int
  | 4 => .int
  | 5 => .int
  | 6 => .int
  | 7 => .int
  | 8 => .int
  | 9 => .int
  | 10 => .int
  | _ => .int
theorem nmX7 : ∀ a, a < 12 → ∀ b, b < 12 → a ≠ b → (TX7 a).2.1 ≠ (TX7 b).2.1 := by decide +kernel
theorem tyX7_ok : ∀ k, k < 12 → parseFieldDescriptor (TX7 k).2.2.1 = some (tyX7 k) := by decide +kernel
abbrev cX7_init : ByteArray := prog_9_method_1_code
def yX7_init : MethodName := ⟨RX7, "<init>", "()V"⟩
abbrev cX7_begin : ByteArray := prog_9_method_2_code
def yX7_begin : MethodName := ⟨RX7, "begin", "(II)V"⟩
abbrev cX7_become : ByteArray := prog_9_method_3_code
def yX7_become : MethodName := ⟨RX7, "become", "(LDomainHouse$Route;)V"⟩
abbrev cX7_vanish : ByteArray := prog_9_method_4_code
def yX7_vanish : MethodName := ⟨RX7, "vanish", "()V"⟩
abbrev cX7_isAlike : ByteArray := prog_9_method_5_code
def yX7_isAlike : MethodName := ⟨RX7, "isAlike", "(LDomainHouse$Route;)Z"⟩
abbrev cX7_passes : ByteArray := prog_9_method_6_code
def yX7_passes : MethodName := ⟨RX7, "passes", "(I)Z"⟩
abbrev cX7_sharesFirst : ByteArray := prog_9_method_7_code
def yX7_sharesFirst : MethodName := ⟨RX7, "sharesFirst", "(LDomainHouse$Route;)Z"⟩
abbrev cX7_putInFront : ByteArray := prog_9_method_8_code
def yX7_putInFront : MethodName := ⟨RX7, "putInFront", "(II)Z"⟩
abbrev cX7_hasMark : ByteArray := prog_9_method_9_code
def yX7_hasMark : MethodName := ⟨RX7, "hasMark", "(I)Z"⟩
abbrev cX7_addMark : ByteArray := prog_9_method_10_code
def yX7_addMark : MethodName := ⟨RX7, "addMark", "(I)V"⟩
abbrev cX7_dropMark : ByteArray := prog_9_method_11_code
def yX7_dropMark : MethodName := ⟨RX7, "dropMark", "(I)V"⟩
def RX8 : String := "DomainHouse$Talk"
def TX8 : u_T := fun k => match k with
  | 0 => ("DomainHouse$Talk", "world", "LDomainHouse$World;", true)
  | 1 => ("DomainHouse$Talk", "court", "LDomainHouse$Judge;", true)
  | 2 => ("DomainHouse$Talk", "queue", "[I", true)
  | 3 => ("DomainHouse$Talk", "momentOf", "[I", true)
  | 4 => ("DomainHouse$Talk", "candidate", "[LDomainHouse$Route;", true)
  | 5 => ("DomainHouse$Talk", "winner", "[I", true)
  | 6 => ("DomainHouse$Talk", "own", "LDomainHouse$Route;", true)
  | 7 => ("DomainHouse$Talk", "nothing", "LDomainHouse$Route;", true)
  | 8 => ("DomainHouse$Talk", "outgoing", "LDomainHouse$Route;", true)
  | 9 => ("DomainHouse$Talk", "candidates", "I", false)
  | 10 => ("DomainHouse$Talk", "queued", "I", false)
  | 11 => ("DomainHouse$Talk", "clock", "I", false)
  | _ => ("DomainHouse$Talk", "done", "I", false)
def tyX8 : Nat → FieldType := fun k => match k with
  | 0 => .object "DomainHouse$World"
  | 1 => .object "DomainHouse$Judge"
  | 2 => .array .int
  | 3 => .array .int
  | 4 => .array (.object "DomainHouse$Route")
  | 5 => .array .int
  | 6 => .object "DomainHouse$Route"
  | 7 => .object "DomainHouse$Route"
  | 8 => .object "DomainHouse$Route"
  | 9 => .int
  | 10 => .int
  | 11 => .int
  | _ => .int
theorem nmX8 : ∀ a, a < 13 → ∀ b, b < 13 → a ≠ b → (TX8 a).2.1 ≠ (TX8 b).2.1 := by decide +kernel
theorem tyX8_ok : ∀ k, k < 13 → parseFieldDescriptor (TX8 k).2.2.1 = some (tyX8 k) := by decide +kernel
abbrev cX8_init : ByteArray := prog_10_method_1_code
def yX8_init : MethodName := ⟨RX8, "<init>", "(LDomainHouse$World;LDomainHouse$Judge;)V"⟩
abbrev cX8_slotOf : ByteArray := prog_10_method_2_code
def yX8_slotOf : MethodName := ⟨RX8, "slotOf", "(IIII)I"⟩
abbrev cX8_schedule : ByteArray := prog_10_method_3_code
def yX8_schedule : MethodName := ⟨RX8, "schedule", "(II)V"⟩
abbrev cX8_cancel : ByteArray := prog_10_method_4_code
def yX8_cancel : MethodName := ⟨RX8, "cancel", "(I)V"⟩
abbrev cX8_doNext : ByteArray := prog_10_method_5_code
def yX8_doNext : MethodName := ⟨RX8, "doNext", "(I)Z"⟩
abbrev cX8_passTo : ByteArray := prog_10_method_6_code
def yX8_passTo : MethodName := ⟨RX8, "passTo", "(I)V"⟩
abbrev cX8_handOver : ByteArray := prog_10_method_7_code
def yX8_handOver : MethodName := ⟨RX8, "handOver", "(LDomainHouse$Tie;II)V"⟩
abbrev cX8_takeIn : ByteArray := prog_10_method_8_code
def yX8_takeIn : MethodName := ⟨RX8, "takeIn", "(LDomainHouse$Message;II)I"⟩
abbrev cX8_silence : ByteArray := prog_10_method_9_code
def yX8_silence : MethodName := ⟨RX8, "silence", "(I)V"⟩
abbrev cX8_tellAllAnew : ByteArray := prog_10_method_10_code
def yX8_tellAllAnew : MethodName := ⟨RX8, "tellAllAnew", "()V"⟩
abbrev cX8_lookAtAll : ByteArray := prog_10_method_11_code
def yX8_lookAtAll : MethodName := ⟨RX8, "lookAtAll", "(I)V"⟩
abbrev cX8_sayAll : ByteArray := prog_10_method_12_code
def yX8_sayAll : MethodName := ⟨RX8, "sayAll", "(II)V"⟩
abbrev cX8_look : ByteArray := prog_10_method_13_code
def yX8_look : MethodName := ⟨RX8, "look", "(II)V"⟩
abbrev cX8_gather : ByteArray := prog_10_method_14_code
def yX8_gather : MethodName := ⟨RX8, "gather", "(II)V"⟩
abbrev cX8_pickPlain : ByteArray := prog_10_method_15_code
def yX8_pickPlain : MethodName := ⟨RX8, "pickPlain", "(LDomainHouse$Domain;)I"⟩
abbrev cX8_pickGrouped : ByteArray := prog_10_method_16_code
def yX8_pickGrouped : MethodName := ⟨RX8, "pickGrouped", "(LDomainHouse$Domain;)I"⟩
abbrev cX8_lastStanding : ByteArray := prog_10_method_17_code
def yX8_lastStanding : MethodName := ⟨RX8, "lastStanding", "(LDomainHouse$Domain;I)I"⟩
abbrev cX8_isFirstOfGroup : ByteArray := prog_10_method_18_code
def yX8_isFirstOfGroup : MethodName := ⟨RX8, "isFirstOfGroup", "(I)Z"⟩
abbrev cX8_bestOfGroup : ByteArray := prog_10_method_19_code
def yX8_bestOfGroup : MethodName := ⟨RX8, "bestOfGroup", "(LDomainHouse$Domain;I)I"⟩
abbrev cX8_insertWinner : ByteArray := prog_10_method_20_code
def yX8_insertWinner : MethodName := ⟨RX8, "insertWinner", "(II)V"⟩
abbrev cX8_groupOrder : ByteArray := prog_10_method_21_code
def yX8_groupOrder : MethodName := ⟨RX8, "groupOrder", "(I)J"⟩
abbrev cX8_say : ByteArray := prog_10_method_22_code
def yX8_say : MethodName := ⟨RX8, "say", "(III)V"⟩
abbrev cX8_compose : ByteArray := prog_10_method_23_code
def yX8_compose : MethodName := ⟨RX8, "compose", "(LDomainHouse$Tie;III)V"⟩
abbrev cX8_reason : ByteArray := prog_10_method_24_code
def yX8_reason : MethodName := ⟨RX8, "reason", "(III)I"⟩
abbrev cX8_candidateOver : ByteArray := prog_10_method_25_code
def yX8_candidateOver : MethodName := ⟨RX8, "candidateOver", "(I)I"⟩
abbrev cX8_threeInRing : ByteArray := prog_10_method_26_code
def yX8_threeInRing : MethodName := ⟨RX8, "threeInRing", "(III)I"⟩
def RX9 : String := "DomainHouse$Tie"
def TX9 : u_T := fun k => match k with
  | 0 => ("DomainHouse$Tie", "a", "I", true)
  | 1 => ("DomainHouse$Tie", "b", "I", true)
  | 2 => ("DomainHouse$Tie", "kind", "I", true)
  | 3 => ("DomainHouse$Tie", "policy", "[I", true)
  | 4 => ("DomainHouse$Tie", "heard", "[LDomainHouse$Route;", true)
  | 5 => ("DomainHouse$Tie", "said", "[LDomainHouse$Route;", true)
  | 6 => ("DomainHouse$Tie", "up", "Z", false)
  | 7 => ("DomainHouse$Tie", "delay", "I", false)
  | _ => ("DomainHouse$Tie", "gap", "I", false)
def tyX9 : Nat → FieldType := fun k => match k with
  | 0 => .int
  | 1 => .int
  | 2 => .int
  | 3 => .array .int
  | 4 => .array (.object "DomainHouse$Route")
  | 5 => .array (.object "DomainHouse$Route")
  | 6 => .boolean
  | 7 => .int
  | _ => .int
theorem nmX9 : ∀ a, a < 9 → ∀ b, b < 9 → a ≠ b → (TX9 a).2.1 ≠ (TX9 b).2.1 := by decide +kernel
theorem tyX9_ok : ∀ k, k < 9 → parseFieldDescriptor (TX9 k).2.2.1 = some (tyX9 k) := by decide +kernel
abbrev cX9_init : ByteArray := prog_11_method_1_code
def yX9_init : MethodName := ⟨RX9, "<init>", "(III)V"⟩
abbrev cX9_placeOf : ByteArray := prog_11_method_2_code
def yX9_placeOf : MethodName := ⟨RX9, "placeOf", "(II)I"⟩
abbrev cX9_end : ByteArray := prog_11_method_3_code
def yX9_end : MethodName := ⟨RX9, "end", "(I)I"⟩
abbrev cX9_sideOf : ByteArray := prog_11_method_4_code
def yX9_sideOf : MethodName := ⟨RX9, "sideOf", "(I)I"⟩
abbrev cX9_partnerRole : ByteArray := prog_11_method_5_code
def yX9_partnerRole : MethodName := ⟨RX9, "partnerRole", "(I)I"⟩
def RX10 : String := "DomainHouse$World"
def TX10 : u_T := fun k => match k with
  | 0 => ("DomainHouse$World", "address", "[I", true)
  | 1 => ("DomainHouse$World", "length", "[I", true)
  | 2 => ("DomainHouse$World", "mask", "[I", true)
  | 3 => ("DomainHouse$World", "domain", "[LDomainHouse$Domain;", true)
  | 4 => ("DomainHouse$World", "tie", "[LDomainHouse$Tie;", true)
  | 5 => ("DomainHouse$World", "ringRow", "[I", true)
  | 6 => ("DomainHouse$World", "stepsBack", "[I", true)
  | 7 => ("DomainHouse$World", "rightPrefix", "[I", true)
  | 8 => ("DomainHouse$World", "rightMost", "[I", true)
  | 9 => ("DomainHouse$World", "rightDomain", "[I", true)
  | 10 => ("DomainHouse$World", "rightFrom", "[I", true)
  | 11 => ("DomainHouse$World", "rightTo", "[I", true)
  | 12 => ("DomainHouse$World", "rightKnown", "[I", true)
  | 13 => ("DomainHouse$World", "rightStruck", "[I", true)
  | 14 => ("DomainHouse$World", "prefixes", "I", false)
  | 15 => ("DomainHouse$World", "domains", "I", false)
  | 16 => ("DomainHouse$World", "ties", "I", false)
  | 17 => ("DomainHouse$World", "rights", "I", false)
  | _ => ("DomainHouse$World", "today", "I", false)
def tyX10 : Nat → FieldType := fun k => match k with
  | 0 => .array .int
  | 1 => .array .int
  | 2 => .array .int
  | 3 => .array (.object "DomainHouse$Domain")
  | 4 => .array (.object "DomainHouse$Tie")
  | 5 => .array .int
  | 6 => .array .int
  | 7 => .array .int
  | 8 => .array .int
  | 9 => .array .int
  | 10 => .array .int
  | 11 => .array .int
  | 12 => .array .int
  | 13 => .array .int
  | 14 => .int
  | 15 => .int
  | 16 => .int
  | 17 => .int
  | _ => .int
theorem nmX10 : ∀ a, a < 19 → ∀ b, b < 19 → a ≠ b → (TX10 a).2.1 ≠ (TX10 b).2.1 := by decide +kernel
theorem tyX10_ok : ∀ k, k < 19 → parseFieldDescriptor (TX10 k).2.2.1 = some (tyX10 k) := by decide +kernel
abbrev cX10_init : ByteArray := prog_12_method_1_code
def yX10_init : MethodName := ⟨RX10, "<init>", "()V"⟩
abbrev cX10_maskOf : ByteArray := prog_12_method_2_code
def yX10_maskOf : MethodName := ⟨RX10, "maskOf", "(I)I"⟩
abbrev cX10_addPrefix : ByteArray := prog_12_method_3_code
def yX10_addPrefix : MethodName := ⟨RX10, "addPrefix", "(II)I"⟩
abbrev cX10_findPrefix : ByteArray := prog_12_method_4_code
def yX10_findPrefix : MethodName := ⟨RX10, "findPrefix", "(II)I"⟩
abbrev cX10_addDomain : ByteArray := prog_12_method_5_code
def yX10_addDomain : MethodName := ⟨RX10, "addDomain", "()I"⟩
abbrev cX10_addTie : ByteArray := prog_12_method_6_code
def yX10_addTie : MethodName := ⟨RX10, "addTie", "(III)I"⟩
abbrev cX10_tieBetween : ByteArray := prog_12_method_7_code
def yX10_tieBetween : MethodName := ⟨RX10, "tieBetween", "(II)I"⟩
abbrev cX10_coneOf : ByteArray := prog_12_method_8_code
def yX10_coneOf : MethodName := ⟨RX10, "coneOf", "(I)I"⟩
abbrev cX10_findRing : ByteArray := prog_12_method_9_code
def yX10_findRing : MethodName := ⟨RX10, "findRing", "()I"⟩
abbrev cX10_shortestRing : ByteArray := prog_12_method_10_code
def yX10_shortestRing : MethodName := ⟨RX10, "shortestRing", "(I)I"⟩
abbrev cX10_fillRing : ByteArray := prog_12_method_11_code
def yX10_fillRing : MethodName := ⟨RX10, "fillRing", "(II)V"⟩
abbrev cX10_leastCustomer : ByteArray := prog_12_method_12_code
def yX10_leastCustomer : MethodName := ⟨RX10, "leastCustomer", "(II)I"⟩
abbrev cX10_firstWrongStep : ByteArray := prog_12_method_13_code
def yX10_firstWrongStep : MethodName := ⟨RX10, "firstWrongStep", "([II)I"⟩
abbrev cX10_addRight : ByteArray := prog_12_method_14_code
def yX10_addRight : MethodName := ⟨RX10, "addRight", "(IIIIII)I"⟩
abbrev cX10_verdictOn : ByteArray := prog_12_method_15_code
def yX10_verdictOn : MethodName := ⟨RX10, "verdictOn", "(IIII)I"⟩
def RX11 : String := "DomainHouse"
def TX11 : u_T := fun k => match k with
  | 0 => ("DomainHouse", "tape", "[I", true)
  | 1 => ("DomainHouse", "wayInHand", "[I", true)
  | 2 => ("DomainHouse", "routeInHand", "LDomainHouse$Route;", true)
  | 3 => ("DomainHouse", "world", "LDomainHouse$World;", true)
  | 4 => ("DomainHouse", "court", "LDomainHouse$Judge;", true)
  | 5 => ("DomainHouse", "reader", "LDomainHouse$Reader;", true)
  | 6 => ("DomainHouse", "talk", "LDomainHouse$Talk;", true)
  | 7 => ("DomainHouse", "mail", "LDomainHouse$Message;", true)
  | 8 => ("DomainHouse", "letters", "LDomainHouse$Letters;", true)
  | 9 => ("DomainHouse", "net", "LDomainHouse$Net;", true)
  | 10 => ("DomainHouse", "tapeSize", "I", false)
  | _ => ("DomainHouse", "wayLength", "I", false)
def tyX11 : Nat → FieldType := fun k => match k with
  | 0 => .array .int
  | 1 => .array .int
  | 2 => .object "DomainHouse$Route"
  | 3 => .object "DomainHouse$World"
  | 4 => .object "DomainHouse$Judge"
  | 5 => .object "DomainHouse$Reader"
  | 6 => .object "DomainHouse$Talk"
  | 7 => .object "DomainHouse$Message"
  | 8 => .object "DomainHouse$Letters"
  | 9 => .object "DomainHouse$Net"
  | 10 => .int
  | _ => .int
theorem nmX11 : ∀ a, a < 12 → ∀ b, b < 12 → a ≠ b → (TX11 a).2.1 ≠ (TX11 b).2.1 := by decide +kernel
theorem tyX11_ok : ∀ k, k < 12 → parseFieldDescriptor (TX11 k).2.2.1 = some (tyX11 k) := by decide +kernel
abbrev cX11_init : ByteArray := prog_1_method_1_code
def yX11_init : MethodName := ⟨RX11, "<init>", "()V"⟩
abbrev cX11_feed : ByteArray := prog_1_method_2_code
def yX11_feed : MethodName := ⟨RX11, "feed", "(IIIII)I"⟩
abbrev cX11_feedNumber : ByteArray := prog_1_method_3_code
def yX11_feedNumber : MethodName := ⟨RX11, "feedNumber", "(I)V"⟩
abbrev cX11_cut : ByteArray := prog_1_method_4_code
def yX11_cut : MethodName := ⟨RX11, "cut", "(I)I"⟩
abbrev cX11_prefix : ByteArray := prog_1_method_5_code
def yX11_prefix : MethodName := ⟨RX11, "prefix", "(II)I"⟩
abbrev cX11_domain : ByteArray := prog_1_method_6_code
def yX11_domain : MethodName := ⟨RX11, "domain", "()I"⟩
abbrev cX11_tie : ByteArray := prog_1_method_7_code
def yX11_tie : MethodName := ⟨RX11, "tie", "(III)I"⟩
abbrev cX11_pace : ByteArray := prog_1_method_8_code
def yX11_pace : MethodName := ⟨RX11, "pace", "(III)I"⟩
abbrev cX11_raise : ByteArray := prog_1_method_9_code
def yX11_raise : MethodName := ⟨RX11, "raise", "(IZ)I"⟩
abbrev cX11_cone : ByteArray := prog_1_method_10_code
def yX11_cone : MethodName := ⟨RX11, "cone", "(II)I"⟩
abbrev cX11_ring : ByteArray := prog_1_method_11_code
def yX11_ring : MethodName := ⟨RX11, "ring", "(I)I"⟩
abbrev cX11_walk : ByteArray := prog_1_method_12_code
def yX11_walk : MethodName := ⟨RX11, "walk", "(I)I"⟩
abbrev cX11_letWay : ByteArray := prog_1_method_13_code
def yX11_letWay : MethodName := ⟨RX11, "letWay", "()I"⟩
abbrev cX11_today : ByteArray := prog_1_method_14_code
def yX11_today : MethodName := ⟨RX11, "today", "(I)I"⟩
abbrev cX11_right : ByteArray := prog_1_method_15_code
def yX11_right : MethodName := ⟨RX11, "right", "(IIIIII)I"⟩
abbrev cX11_strike : ByteArray := prog_1_method_16_code
def yX11_strike : MethodName := ⟨RX11, "strike", "(II)I"⟩
abbrev cX11_verdict : ByteArray := prog_1_method_17_code
def yX11_verdict : MethodName := ⟨RX11, "verdict", "(IIII)I"⟩
abbrev cX11_policy : ByteArray := prog_1_method_18_code
def yX11_policy : MethodName := ⟨RX11, "policy", "()I"⟩
abbrev cX11_fault : ByteArray := prog_1_method_19_code
def yX11_fault : MethodName := ⟨RX11, "fault", "()I"⟩
abbrev cX11_route : ByteArray := prog_1_method_20_code
def yX11_route : MethodName := ⟨RX11, "route", "(IIII)I"⟩
abbrev cX11_judge : ByteArray := prog_1_method_21_code
def yX11_judge : MethodName := ⟨RX11, "judge", "(III)I"⟩
abbrev cX11_hand : ByteArray := prog_1_method_22_code
def yX11_hand : MethodName := ⟨RX11, "hand", "(I)I"⟩
abbrev cX11_rowInHand : ByteArray := prog_1_method_23_code
def yX11_rowInHand : MethodName := ⟨RX11, "rowInHand", "(I)I"⟩
abbrev cX11_use : ByteArray := prog_1_method_24_code
def yX11_use : MethodName := ⟨RX11, "use", "(IIII)I"⟩
abbrev cX11_rule : ByteArray := prog_1_method_25_code
def yX11_rule : MethodName := ⟨RX11, "rule", "(IIZ)I"⟩
abbrev cX11_isRule : ByteArray := prog_1_method_26_code
def yX11_isRule : MethodName := ⟨RX11, "isRule", "(I)Z"⟩
abbrev cX11_announce : ByteArray := prog_1_method_27_code
def yX11_announce : MethodName := ⟨RX11, "announce", "(III)I"⟩
abbrev cX11_withdraw : ByteArray := prog_1_method_28_code
def yX11_withdraw : MethodName := ⟨RX11, "withdraw", "(II)I"⟩
abbrev cX11_go : ByteArray := prog_1_method_29_code
def yX11_go : MethodName := ⟨RX11, "go", "(I)I"⟩
abbrev cX11_until : ByteArray := prog_1_method_30_code
def yX11_until : MethodName := ⟨RX11, "until", "(I)I"⟩
abbrev cX11_picked : ByteArray := prog_1_method_31_code
def yX11_picked : MethodName := ⟨RX11, "picked", "(II)I"⟩
abbrev cX11_heard : ByteArray := prog_1_method_32_code
def yX11_heard : MethodName := ⟨RX11, "heard", "(IIII)I"⟩
abbrev cX11_why : ByteArray := prog_1_method_33_code
def yX11_why : MethodName := ⟨RX11, "why", "(III)I"⟩
abbrev cX11_three : ByteArray := prog_1_method_34_code
def yX11_three : MethodName := ⟨RX11, "three", "(III)I"⟩
abbrev cX11_message : ByteArray := prog_1_method_35_code
def yX11_message : MethodName := ⟨RX11, "message", "()I"⟩
abbrev cX11_part : ByteArray := prog_1_method_36_code
def yX11_part : MethodName := ⟨RX11, "part", "(I)I"⟩
abbrev cX11_hear : ByteArray := prog_1_method_37_code
def yX11_hear : MethodName := ⟨RX11, "hear", "(II)I"⟩
abbrev cX11_write : ByteArray := prog_1_method_38_code
def yX11_write : MethodName := ⟨RX11, "write", "(III)I"⟩
abbrev cX11_octet : ByteArray := prog_1_method_39_code
def yX11_octet : MethodName := ⟨RX11, "octet", "(I)I"⟩
abbrev cX11_letter : ByteArray := prog_1_method_40_code
def yX11_letter : MethodName := ⟨RX11, "letter", "(II)I"⟩
abbrev cX11_led : ByteArray := prog_1_method_41_code
def yX11_led : MethodName := ⟨RX11, "led", "(I)I"⟩
abbrev cX11_demand : ByteArray := prog_1_method_42_code
def yX11_demand : MethodName := ⟨RX11, "demand", "(III)I"⟩
abbrev cX11_load : ByteArray := prog_1_method_43_code
def yX11_load : MethodName := ⟨RX11, "load", "(II)I"⟩
abbrev cX11_units : ByteArray := prog_1_method_44_code
def yX11_units : MethodName := ⟨RX11, "units", "(I)I"⟩
abbrev cX11_least : ByteArray := prog_1_method_45_code
def yX11_least : MethodName := ⟨RX11, "least", "(I)I"⟩
abbrev cX11_differ : ByteArray := prog_1_method_46_code
def yX11_differ : MethodName := ⟨RX11, "differ", "(II)J"⟩
abbrev cX11_clear : ByteArray := prog_1_method_47_code
def yX11_clear : MethodName := ⟨RX11, "clear", "()I"⟩
abbrev cX11_wish : ByteArray := prog_1_method_48_code
def yX11_wish : MethodName := ⟨RX11, "wish", "()I"⟩
abbrev cX11_rests : ByteArray := prog_1_method_49_code
def yX11_rests : MethodName := ⟨RX11, "rests", "()I"⟩
abbrev cX11_rest : ByteArray := prog_1_method_50_code
def yX11_rest : MethodName := ⟨RX11, "rest", "(II)I"⟩
abbrev cX11_tries : ByteArray := prog_1_method_51_code
def yX11_tries : MethodName := ⟨RX11, "tries", "(I)I"⟩
abbrev cX11_count : ByteArray := prog_1_method_52_code
def yX11_count : MethodName := ⟨RX11, "count", "(I)I"⟩
abbrev cX11_isDomain : ByteArray := prog_1_method_53_code
def yX11_isDomain : MethodName := ⟨RX11, "isDomain", "(I)Z"⟩
abbrev cX11_isPrefix : ByteArray := prog_1_method_54_code
def yX11_isPrefix : MethodName := ⟨RX11, "isPrefix", "(I)Z"⟩
abbrev cX11_isTie : ByteArray := prog_1_method_55_code
def yX11_isTie : MethodName := ⟨RX11, "isTie", "(I)Z"⟩
abbrev cX11_isEither : ByteArray := prog_1_method_56_code
def yX11_isEither : MethodName := ⟨RX11, "isEither", "(I)Z"⟩
def RX12 : String := "DomainHouseModel"
def TX12 : u_T := fun k => match k with
  | 0 => ("DomainHouseModel", "tape", "[B", true)
  | 1 => ("DomainHouseModel", "size", "I", false)
  | 2 => ("DomainHouseModel", "prefixes", "I", false)
  | 3 => ("DomainHouseModel", "xAddress", "[I", true)
  | 4 => ("DomainHouseModel", "xLength", "[I", true)
  | 5 => ("DomainHouseModel", "domains", "I", false)
  | 6 => ("DomainHouseModel", "ties", "I", false)
  | 7 => ("DomainHouseModel", "tEnd", "[I", true)
  | 8 => ("DomainHouseModel", "tKind", "[I", true)
  | 9 => ("DomainHouseModel", "tUp", "[Z", true)
  | 10 => ("DomainHouseModel", "tDelay", "[I", true)
  | 11 => ("DomainHouseModel", "tGap", "[I", true)
  | 12 => ("DomainHouseModel", "tPolicy", "[I", true)
  | 13 => ("DomainHouseModel", "cone", "[Z", true)
  | 14 => ("DomainHouseModel", "far", "[I", true)
  | 15 => ("DomainHouseModel", "hands", "I", false)
  | 16 => ("DomainHouseModel", "handWay", "[I", true)
  | 17 => ("DomainHouseModel", "today", "I", false)
  | 18 => ("DomainHouseModel", "rights", "I", false)
  | 19 => ("DomainHouseModel", "rPrefix", "[I", true)
  | 20 => ("DomainHouseModel", "rMost", "[I", true)
  | 21 => ("DomainHouseModel", "rDomain", "[I", true)
  | 22 => ("DomainHouseModel", "rFrom", "[I", true)
  | 23 => ("DomainHouseModel", "rTo", "[I", true)
  | 24 => ("DomainHouseModel", "rKnown", "[I", true)
  | 25 => ("DomainHouseModel", "rStruck", "[I", true)
  | 26 => ("DomainHouseModel", "isJudged", "Z", false)
  | 27 => ("DomainHouseModel", "judgedPrefix", "I", false)
  | 28 => ("DomainHouseModel", "judgedNumber", "I", false)
  | 29 => ("DomainHouseModel", "judgedDay", "I", false)
  | 30 => ("DomainHouseModel", "judgedKnown", "I", false)
  | 31 => ("DomainHouseModel", "judgedVerdict", "I", false)
  | 32 => ("DomainHouseModel", "routes", "[I", true)
  | 33 => ("DomainHouseModel", "at", "I", false)
  | 34 => ("DomainHouseModel", "from", "I", false)
  | 35 => ("DomainHouseModel", "type", "I", false)
  | 36 => ("DomainHouseModel", "number", "I", false)
  | 37 => ("DomainHouseModel", "code", "I", false)
  | 38 => ("DomainHouseModel", "place", "I", false)
  | 39 => ("DomainHouseModel", "policies", "I", false)
  | 40 => ("DomainHouseModel", "pRows", "[I", true)
  | 41 => ("DomainHouseModel", "rowTest", "[I", true)
  | 42 => ("DomainHouseModel", "rowAct", "[I", true)
  | 43 => ("DomainHouseModel", "tests", "[I", true)
  | 44 => ("DomainHouseModel", "acts", "[I", true)
  | 45 => ("DomainHouseModel", "sWhat", "[I", true)
  | 46 => ("DomainHouseModel", "sNot", "[Z", true)
  | 47 => ("DomainHouseModel", "sA", "[I", true)
  | 48 => ("DomainHouseModel", "sB", "[I", true)
  | 49 => ("DomainHouseModel", "sC", "[I", true)
  | 50 => ("DomainHouseModel", "sFirst", "[J", true)
  | 51 => ("DomainHouseModel", "sLast", "[J", true)
  | 52 => ("DomainHouseModel", "sNone", "[Z", true)
  | 53 => ("DomainHouseModel", "cWhat", "[I", true)
  | 54 => ("DomainHouseModel", "cA", "[I", true)
  | 55 => ("DomainHouseModel", "atoms", "[I", true)
  | 56 => ("DomainHouseModel", "aNumber", "[I", true)
  | 57 => ("DomainHouseModel", "aFollow", "[J", true)
  | 58 => ("DomainHouseModel", "draft", "I", false)
  | 59 => ("DomainHouseModel", "levels", "I", false)
  | 60 => ("DomainHouseModel", "allFirst", "[J", true)
  | 61 => ("DomainHouseModel", "allLast", "[J", true)
  | 62 => ("DomainHouseModel", "allNone", "[Z", true)
  | 63 => ("DomainHouseModel", "rowFirst", "[J", true)
  | 64 => ("DomainHouseModel", "rowLast", "[J", true)
  | 65 => ("DomainHouseModel", "rowNone", "[Z", true)
  | 66 => ("DomainHouseModel", "fault", "I", false)
  | 67 => ("DomainHouseModel", "gPolicy", "[I", true)
  | 68 => ("DomainHouseModel", "gRow", "[I", true)
  | 69 => ("DomainHouseModel", "gAct", "[I", true)
  | 70 => ("DomainHouseModel", "isHand", "Z", false)
  | 71 => ("DomainHouseModel", "clock", "I", false)
  | 72 => ("DomainHouseModel", "made", "I", false)
  | 73 => ("DomainHouseModel", "done", "I", false)
  | 74 => ("DomainHouseModel", "heardAt", "[I", true)
  | 75 => ("DomainHouseModel", "wasSaid", "[Z", true)
  | 76 => ("DomainHouseModel", "saidAt", "[I", true)
  | 77 => ("DomainHouseModel", "goAt", "[I", true)
  | 78 => ("DomainHouseModel", "goMade", "[I", true)
  | 79 => ("DomainHouseModel", "waitAt", "[I", true)
  | 80 => ("DomainHouseModel", "waitMade", "[I", true)
  | 81 => ("DomainHouseModel", "pickedTie", "[I", true)
  | 82 => ("DomainHouseModel", "own", "[I", true)
  | 83 => ("DomainHouseModel", "steps", "[I", true)
  | 84 => ("DomainHouseModel", "grouped", "[Z", true)
  | 85 => ("DomainHouseModel", "left", "[Z", true)
  | 86 => ("DomainHouseModel", "gAddress", "[I", true)
  | 87 => ("DomainHouseModel", "gLength", "[I", true)
  | 88 => ("DomainHouseModel", "gone", "I", false)
  | 89 => ("DomainHouseModel", "nAddress", "[I", true)
  | 90 => ("DomainHouseModel", "nLength", "[I", true)
  | 91 => ("DomainHouseModel", "come", "I", false)
  | 92 => ("DomainHouseModel", "carried", "[I", true)
  | 93 => ("DomainHouseModel", "carries", "I", false)
  | 94 => ("DomainHouseModel", "seen", "[Z", true)
  | 95 => ("DomainHouseModel", "fPlace", "[I", true)
  | 96 => ("DomainHouseModel", "isMessage", "Z", false)
  | 97 => ("DomainHouseModel", "isClose", "Z", false)
  | 98 => ("DomainHouseModel", "isRightOrigin", "Z", false)
  | 99 => ("DomainHouseModel", "isRightWay", "Z", false)
  | 100 => ("DomainHouseModel", "msgMarks", "[I", true)
  | 101 => ("DomainHouseModel", "marksCame", "I", false)
  | 102 => ("DomainHouseModel", "toldKind", "I", false)
  | 103 => ("DomainHouseModel", "octets", "[I", true)
  | 104 => ("DomainHouseModel", "written", "I", false)
  | 105 => ("DomainHouseModel", "led", "[I", true)
  | 106 => ("DomainHouseModel", "ledMany", "I", false)
  | 107 => ("DomainHouseModel", "show", "[I", true)
  | 108 => ("DomainHouseModel", "showMany", "I", false)
  | 109 => ("DomainHouseModel", "demands", "I", false)
  | 110 => ("DomainHouseModel", "dFrom", "[I", true)
  | 111 => ("DomainHouseModel", "dAddress", "[I", true)
  | 112 => ("DomainHouseModel", "dUnits", "[I", true)
  | 113 => ("DomainHouseModel", "nAddr", "[I", true)
  | 114 => ("DomainHouseModel", "nDepth", "[I", true)
  | 115 => ("DomainHouseModel", "nCost", "[I", true)
  | 116 => ("DomainHouseModel", "nodes", "I", false)
  | 117 => ("DomainHouseModel", "edges", "[J", true)
  | 118 => ("DomainHouseModel", "wishes", "[I", true)
  | 119 => ("DomainHouseModel", "wLong", "[I", true)
  | 120 => ("DomainHouseModel", "wWay", "[I", true)
  | 121 => ("DomainHouseModel", "weigh", "[I", true)
  | 122 => ("DomainHouseModel", "has", "[I", true)
  | 123 => ("DomainHouseModel", "reached", "[I", true)
  | 124 => ("DomainHouseModel", "queue", "[I", true)
  | _ => ("DomainHouseModel", "hopes", "[Z", true)
def tyX12 : Nat → FieldType := fun k => match k with
  | 0 => .array .byte
  | 1 => .int
  | 2 => .int
  | 3 => .array .int
  | 4 => .array .int
  | 5 => .int
  | 6 => .int
  | 7 => .array .int
  | 8 => .array .int
  | 9 => .array .boolean
  | 10 => .array .int
  | 11 => .array .int
  | 12 => .array .int
  | 13 => .array .boolean
  | 14 => .array .int
  | 15 => .int
  | 16 => .array .int
  | 17 => .int
  | 18 => .int
  | 19 => .array .int
  | 20 => .array .int
  | 21 => .array .int
  | 22 => .array .int
  | 23 => .array .int
  | 24 => .array .int
  | 25 => .array .int
  | 26 => .boolean
  | 27 => .int
  | 28 => .int
  | 29 => .int
  | 30 => .int
  | 31 => .int
  | 32 => .array .int
  | 33 => .int
  | 34 => .int
  | 35 => .int
  | 36 => .int
  | 37 => .int
  | 38 => .int
  | 39 => .int
  | 40 => .array .int
  | 41 => .array .int
  | 42 => .array .int
  | 43 => .array .int
  | 44 => .array .int
  | 45 => .array .int
  | 46 => .array .boolean
  | 47 => .array .int
  | 48 => .array .int
  | 49 => .array .int
  | 50 => .array .long
  | 51 => .array .long
  | 52 => .array .boolean
  | 53 => .array .int
  | 54 => .array .int
  | 55 => .array .int
  | 56 => .array .int
  | 57 => .array .long
  | 58 => .int
  | 59 => .int
  | 60 => .array .long
  | 61 => .array .long
  | 62 => .array .boolean
  | 63 => .array .long
  | 64 => .array .long
  | 65 => .array .boolean
  | 66 => .int
  | 67 => .array .int
  | 68 => .array .int
  | 69 => .array .int
  | 70 => .boolean
  | 71 => .int
  | 72 => .int
  | 73 => .int
  | 74 => .array .int
  | 75 => .array .boolean
  | 76 => .array .int
  | 77 => .array .int
  | 78 => .array .int
  | 79 => .array .int
  | 80 => .array .int
  | 81 => .array .int
  | 82 => .array .int
  | 83 => .array .int
  | 84 => .array .boolean
  | 85 => .array .boolean
  | 86 => .array .int
  | 87 => .array .int
  | 88 => .int
  | 89 => .array .int
  | 90 => .array .int
  | 91 => .int
  | 92 => .array .int
  | 93 => .int
  | 94 => .array .boolean
  | 95 => .array .int
  | 96 => .boolean
  | 97 => .boolean
  | 98 => .boolean
  | 99 => .boolean
  | 100 => .array .int
  | 101 => .int
  | 102 => .int
  | 103 => .array .int
  | 104 => .int
  | 105 => .array .int
  | 106 => .int
  | 107 => .array .int
  | 108 => .int
  | 109 => .int
  | 110 => .array .int
  | 111 => .array .int
  | 112 => .array .int
  | 113 => .array .int
  | 114 => .array .int
  | 115 => .array .int
  | 116 => .int
  | 117 => .array .long
  | 118 => .array .int
  | 119 => .array .int
  | 120 => .array .int
  | 121 => .array .int
  | 122 => .array .int
  | 123 => .array .int
  | 124 => .array .int
  | _ => .array .boolean
theorem nmX12 : ∀ a, a < 126 → ∀ b, b < 126 → a ≠ b → (TX12 a).2.1 ≠ (TX12 b).2.1 := by decide +kernel
theorem tyX12_ok : ∀ k, k < 126 → parseFieldDescriptor (TX12 k).2.2.1 = some (tyX12 k) := by decide +kernel
abbrev cX12_in : ByteArray := prog_14_method_1_code
def yX12_in : MethodName := ⟨RX12, "in", "(III)Z"⟩
abbrev cX12_feed : ByteArray := prog_14_method_2_code
def yX12_feed : MethodName := ⟨RX12, "feed", "(IIIII)I"⟩
abbrev cX12_cut : ByteArray := prog_14_method_3_code
def yX12_cut : MethodName := ⟨RX12, "cut", "(I)I"⟩
abbrev cX12_mask : ByteArray := prog_14_method_4_code
def yX12_mask : MethodName := ⟨RX12, "mask", "(I)I"⟩
abbrev cX12_holds : ByteArray := prog_14_method_5_code
def yX12_holds : MethodName := ⟨RX12, "holds", "(III)Z"⟩
abbrev cX12_isPrefix : ByteArray := prog_14_method_6_code
def yX12_isPrefix : MethodName := ⟨RX12, "isPrefix", "(I)Z"⟩
abbrev cX12_prefixOf : ByteArray := prog_14_method_7_code
def yX12_prefixOf : MethodName := ⟨RX12, "prefixOf", "(II)I"⟩
abbrev cX12_prefix : ByteArray := prog_14_method_8_code
def yX12_prefix : MethodName := ⟨RX12, "prefix", "(II)I"⟩
abbrev cX12_isDomain : ByteArray := prog_14_method_9_code
def yX12_isDomain : MethodName := ⟨RX12, "isDomain", "(I)Z"⟩
abbrev cX12_isTie : ByteArray := prog_14_method_10_code
def yX12_isTie : MethodName := ⟨RX12, "isTie", "(I)Z"⟩
abbrev cX12_tieOf : ByteArray := prog_14_method_11_code
def yX12_tieOf : MethodName := ⟨RX12, "tieOf", "(II)I"⟩
abbrev cX12_provides : ByteArray := prog_14_method_12_code
def yX12_provides : MethodName := ⟨RX12, "provides", "(II)Z"⟩
abbrev cX12_domain : ByteArray := prog_14_method_13_code
def yX12_domain : MethodName := ⟨RX12, "domain", "()I"⟩
abbrev cX12_tie : ByteArray := prog_14_method_14_code
def yX12_tie : MethodName := ⟨RX12, "tie", "(III)I"⟩
abbrev cX12_pace : ByteArray := prog_14_method_15_code
def yX12_pace : MethodName := ⟨RX12, "pace", "(III)I"⟩
abbrev cX12_cone : ByteArray := prog_14_method_16_code
def yX12_cone : MethodName := ⟨RX12, "cone", "(II)I"⟩
abbrev cX12_ring : ByteArray := prog_14_method_17_code
def yX12_ring : MethodName := ⟨RX12, "ring", "(I)I"⟩
abbrev cX12_walk : ByteArray := prog_14_method_18_code
def yX12_walk : MethodName := ⟨RX12, "walk", "(I)I"⟩
abbrev cX12_letWay : ByteArray := prog_14_method_19_code
def yX12_letWay : MethodName := ⟨RX12, "letWay", "()I"⟩
abbrev cX12_today : ByteArray := prog_14_method_20_code
def yX12_today : MethodName := ⟨RX12, "today", "(I)I"⟩
abbrev cX12_right : ByteArray := prog_14_method_21_code
def yX12_right : MethodName := ⟨RX12, "right", "(IIIIII)I"⟩
abbrev cX12_strike : ByteArray := prog_14_method_22_code
def yX12_strike : MethodName := ⟨RX12, "strike", "(II)I"⟩
abbrev cX12_judged : ByteArray := prog_14_method_23_code
def yX12_judged : MethodName := ⟨RX12, "judged", "(IIII)I"⟩
abbrev cX12_judgedAnew : ByteArray := prog_14_method_24_code
def yX12_judgedAnew : MethodName := ⟨RX12, "judgedAnew", "(IIII)I"⟩
abbrev cX12_verdict : ByteArray := prog_14_method_25_code
def yX12_verdict : MethodName := ⟨RX12, "verdict", "(IIII)I"⟩
abbrev cX12_copy : ByteArray := prog_14_method_26_code
def yX12_copy : MethodName := ⟨RX12, "copy", "(II)V"⟩
abbrev cX12_nothing : ByteArray := prog_14_method_27_code
def yX12_nothing : MethodName := ⟨RX12, "nothing", "(I)V"⟩
abbrev cX12_isThere : ByteArray := prog_14_method_28_code
def yX12_isThere : MethodName := ⟨RX12, "isThere", "(I)Z"⟩
abbrev cX12_same : ByteArray := prog_14_method_29_code
def yX12_same : MethodName := ⟨RX12, "same", "(II)Z"⟩
abbrev cX12_marked : ByteArray := prog_14_method_30_code
def yX12_marked : MethodName := ⟨RX12, "marked", "(II)Z"⟩
abbrev cX12_addMark : ByteArray := prog_14_method_31_code
def yX12_addMark : MethodName := ⟨RX12, "addMark", "(II)V"⟩
abbrev cX12_dropMark : ByteArray := prog_14_method_32_code
def yX12_dropMark : MethodName := ⟨RX12, "dropMark", "(II)V"⟩
abbrev cX12_front : ByteArray := prog_14_method_33_code
def yX12_front : MethodName := ⟨RX12, "front", "(II)Z"⟩
abbrev cX12_isIn : ByteArray := prog_14_method_34_code
def yX12_isIn : MethodName := ⟨RX12, "isIn", "(II)Z"⟩
abbrev cX12_wordOf : ByteArray := prog_14_method_35_code
def yX12_wordOf : MethodName := ⟨RX12, "wordOf", "(J)I"⟩
abbrev cX12_wrong : ByteArray := prog_14_method_36_code
def yX12_wrong : MethodName := ⟨RX12, "wrong", "(I)V"⟩
abbrev cX12_byteAt : ByteArray := prog_14_method_37_code
def yX12_byteAt : MethodName := ⟨RX12, "byteAt", "(I)I"⟩
abbrev cX12_next : ByteArray := prog_14_method_38_code
def yX12_next : MethodName := ⟨RX12, "next", "()V"⟩
abbrev cX12_isSign : ByteArray := prog_14_method_39_code
def yX12_isSign : MethodName := ⟨RX12, "isSign", "(I)Z"⟩
abbrev cX12_isWord : ByteArray := prog_14_method_40_code
def yX12_isWord : MethodName := ⟨RX12, "isWord", "(I)Z"⟩
abbrev cX12_sign : ByteArray := prog_14_method_41_code
def yX12_sign : MethodName := ⟨RX12, "sign", "(I)V"⟩
abbrev cX12_within : ByteArray := prog_14_method_42_code
def yX12_within : MethodName := ⟨RX12, "within", "(II)I"⟩
abbrev cX12_openLevel : ByteArray := prog_14_method_43_code
def yX12_openLevel : MethodName := ⟨RX12, "openLevel", "()V"⟩
abbrev cX12_freshRow : ByteArray := prog_14_method_44_code
def yX12_freshRow : MethodName := ⟨RX12, "freshRow", "()V"⟩
abbrev cX12_endRow : ByteArray := prog_14_method_45_code
def yX12_endRow : MethodName := ⟨RX12, "endRow", "()V"⟩
abbrev cX12_follows : ByteArray := prog_14_method_46_code
def yX12_follows : MethodName := ⟨RX12, "follows", "(JJ)V"⟩
abbrev cX12_piece : ByteArray := prog_14_method_47_code
def yX12_piece : MethodName := ⟨RX12, "piece", "(JJZ)V"⟩
abbrev cX12_wayTest : ByteArray := prog_14_method_48_code
def yX12_wayTest : MethodName := ⟨RX12, "wayTest", "(I)V"⟩
abbrev cX12_addressRead : ByteArray := prog_14_method_49_code
def yX12_addressRead : MethodName := ⟨RX12, "addressRead", "()I"⟩
abbrev cX12_test : ByteArray := prog_14_method_50_code
def yX12_test : MethodName := ⟨RX12, "test", "()V"⟩
abbrev cX12_actRead : ByteArray := prog_14_method_51_code
def yX12_actRead : MethodName := ⟨RX12, "actRead", "()V"⟩
abbrev cX12_rowRead : ByteArray := prog_14_method_52_code
def yX12_rowRead : MethodName := ⟨RX12, "rowRead", "()V"⟩
abbrev cX12_policy : ByteArray := prog_14_method_53_code
def yX12_policy : MethodName := ⟨RX12, "policy", "()I"⟩
abbrev cX12_fault : ByteArray := prog_14_method_54_code
def yX12_fault : MethodName := ⟨RX12, "fault", "()I"⟩
abbrev cX12_waysMatch : ByteArray := prog_14_method_55_code
def yX12_waysMatch : MethodName := ⟨RX12, "waysMatch", "(III)Z"⟩
abbrev cX12_tieWord : ByteArray := prog_14_method_56_code
def yX12_tieWord : MethodName := ⟨RX12, "tieWord", "(II)I"⟩
abbrev cX12_related : ByteArray := prog_14_method_57_code
def yX12_related : MethodName := ⟨RX12, "related", "(III)Z"⟩
abbrev cX12_isSo : ByteArray := prog_14_method_58_code
def yX12_isSo : MethodName := ⟨RX12, "isSo", "(IIIII)Z"⟩
abbrev cX12_through : ByteArray := prog_14_method_59_code
def yX12_through : MethodName := ⟨RX12, "through", "(IIII)Z"⟩
abbrev cX12_route : ByteArray := prog_14_method_60_code
def yX12_route : MethodName := ⟨RX12, "route", "(IIII)I"⟩
abbrev cX12_judge : ByteArray := prog_14_method_61_code
def yX12_judge : MethodName := ⟨RX12, "judge", "(III)I"⟩
abbrev cX12_hand : ByteArray := prog_14_method_62_code
def yX12_hand : MethodName := ⟨RX12, "hand", "(I)I"⟩
abbrev cX12_init : ByteArray := prog_14_method_63_code
def yX12_init : MethodName := ⟨RX12, "<init>", "()V"⟩
abbrev cX12_slot : ByteArray := prog_14_method_64_code
def yX12_slot : MethodName := ⟨RX12, "slot", "(III)I"⟩
abbrev cX12_sideOf : ByteArray := prog_14_method_65_code
def yX12_sideOf : MethodName := ⟨RX12, "sideOf", "(II)I"⟩
abbrev cX12_isAt : ByteArray := prog_14_method_66_code
def yX12_isAt : MethodName := ⟨RX12, "isAt", "(II)Z"⟩
abbrev cX12_partnerOf : ByteArray := prog_14_method_67_code
def yX12_partnerOf : MethodName := ⟨RX12, "partnerOf", "(II)I"⟩
abbrev cX12_unlike : ByteArray := prog_14_method_68_code
def yX12_unlike : MethodName := ⟨RX12, "unlike", "(IIIIII)I"⟩
abbrev cX12_beats : ByteArray := prog_14_method_69_code
def yX12_beats : MethodName := ⟨RX12, "beats", "(IIII)Z"⟩
abbrev cX12_candidate : ByteArray := prog_14_method_70_code
def yX12_candidate : MethodName := ⟨RX12, "candidate", "(III)I"⟩
abbrev cX12_candidates : ByteArray := prog_14_method_71_code
def yX12_candidates : MethodName := ⟨RX12, "candidates", "(II)V"⟩
abbrev cX12_best : ByteArray := prog_14_method_72_code
def yX12_best : MethodName := ⟨RX12, "best", "(II)I"⟩
abbrev cX12_isBelow : ByteArray := prog_14_method_73_code
def yX12_isBelow : MethodName := ⟨RX12, "isBelow", "(II)Z"⟩
abbrev cX12_pick : ByteArray := prog_14_method_74_code
def yX12_pick : MethodName := ⟨RX12, "pick", "(II)I"⟩
abbrev cX12_look : ByteArray := prog_14_method_75_code
def yX12_look : MethodName := ⟨RX12, "look", "(II)V"⟩
abbrev cX12_say : ByteArray := prog_14_method_76_code
def yX12_say : MethodName := ⟨RX12, "say", "(III)V"⟩
abbrev cX12_lookAll : ByteArray := prog_14_method_77_code
def yX12_lookAll : MethodName := ⟨RX12, "lookAll", "(I)V"⟩
abbrev cX12_sayAll : ByteArray := prog_14_method_78_code
def yX12_sayAll : MethodName := ⟨RX12, "sayAll", "(II)V"⟩
abbrev cX12_rethink : ByteArray := prog_14_method_79_code
def yX12_rethink : MethodName := ⟨RX12, "rethink", "()V"⟩
abbrev cX12_raise : ByteArray := prog_14_method_80_code
def yX12_raise : MethodName := ⟨RX12, "raise", "(IZ)I"⟩
abbrev cX12_use : ByteArray := prog_14_method_81_code
def yX12_use : MethodName := ⟨RX12, "use", "(IIII)I"⟩
abbrev cX12_rule : ByteArray := prog_14_method_82_code
def yX12_rule : MethodName := ⟨RX12, "rule", "(IIZ)I"⟩
abbrev cX12_announce : ByteArray := prog_14_method_83_code
def yX12_announce : MethodName := ⟨RX12, "announce", "(III)I"⟩
abbrev cX12_withdraw : ByteArray := prog_14_method_84_code
def yX12_withdraw : MethodName := ⟨RX12, "withdraw", "(II)I"⟩
abbrev cX12_nextEvent : ByteArray := prog_14_method_85_code
def yX12_nextEvent : MethodName := ⟨RX12, "nextEvent", "()I"⟩
abbrev cX12_eventAt : ByteArray := prog_14_method_86_code
def yX12_eventAt : MethodName := ⟨RX12, "eventAt", "(I)I"⟩
abbrev cX12_doEvent : ByteArray := prog_14_method_87_code
def yX12_doEvent : MethodName := ⟨RX12, "doEvent", "(I)V"⟩
abbrev cX12_go : ByteArray := prog_14_method_88_code
def yX12_go : MethodName := ⟨RX12, "go", "(I)I"⟩
abbrev cX12_until : ByteArray := prog_14_method_89_code
def yX12_until : MethodName := ⟨RX12, "until", "(I)I"⟩
abbrev cX12_picked : ByteArray := prog_14_method_90_code
def yX12_picked : MethodName := ⟨RX12, "picked", "(II)I"⟩
abbrev cX12_heard : ByteArray := prog_14_method_91_code
def yX12_heard : MethodName := ⟨RX12, "heard", "(IIII)I"⟩
abbrev cX12_why : ByteArray := prog_14_method_92_code
def yX12_why : MethodName := ⟨RX12, "why", "(III)I"⟩
abbrev cX12_three : ByteArray := prog_14_method_93_code
def yX12_three : MethodName := ⟨RX12, "three", "(III)I"⟩
abbrev cX12_fails : ByteArray := prog_14_method_94_code
def yX12_fails : MethodName := ⟨RX12, "fails", "(II)V"⟩
abbrev cX12_number : ByteArray := prog_14_method_95_code
def yX12_number : MethodName := ⟨RX12, "number", "(II)I"⟩
abbrev cX12_partOf : ByteArray := prog_14_method_96_code
def yX12_partOf : MethodName := ⟨RX12, "partOf", "(IIZ)Z"⟩
abbrev cX12_originRight : ByteArray := prog_14_method_97_code
def yX12_originRight : MethodName := ⟨RX12, "originRight", "(II)Z"⟩
abbrev cX12_wayRight : ByteArray := prog_14_method_98_code
def yX12_wayRight : MethodName := ⟨RX12, "wayRight", "(II)Z"⟩
abbrev cX12_costRight : ByteArray := prog_14_method_99_code
def yX12_costRight : MethodName := ⟨RX12, "costRight", "(II)Z"⟩
abbrev cX12_marksRight : ByteArray := prog_14_method_100_code
def yX12_marksRight : MethodName := ⟨RX12, "marksRight", "(II)Z"⟩
abbrev cX12_attributes : ByteArray := prog_14_method_101_code
def yX12_attributes : MethodName := ⟨RX12, "attributes", "(II)V"⟩
abbrev cX12_message : ByteArray := prog_14_method_102_code
def yX12_message : MethodName := ⟨RX12, "message", "()I"⟩
abbrev cX12_part : ByteArray := prog_14_method_103_code
def yX12_part : MethodName := ⟨RX12, "part", "(I)I"⟩
abbrev cX12_hear : ByteArray := prog_14_method_104_code
def yX12_hear : MethodName := ⟨RX12, "hear", "(II)I"⟩
abbrev cX12_octet1 : ByteArray := prog_14_method_105_code
def yX12_octet1 : MethodName := ⟨RX12, "octet1", "(I)V"⟩
abbrev cX12_octet4 : ByteArray := prog_14_method_106_code
def yX12_octet4 : MethodName := ⟨RX12, "octet4", "(I)V"⟩
abbrev cX12_prefixOut : ByteArray := prog_14_method_107_code
def yX12_prefixOut : MethodName := ⟨RX12, "prefixOut", "(I)V"⟩
abbrev cX12_write : ByteArray := prog_14_method_108_code
def yX12_write : MethodName := ⟨RX12, "write", "(III)I"⟩
abbrev cX12_octet : ByteArray := prog_14_method_109_code
def yX12_octet : MethodName := ⟨RX12, "octet", "(I)I"⟩
abbrev cX12_sends : ByteArray := prog_14_method_110_code
def yX12_sends : MethodName := ⟨RX12, "sends", "(II)I"⟩
abbrev cX12_goes : ByteArray := prog_14_method_111_code
def yX12_goes : MethodName := ⟨RX12, "goes", "(II)I"⟩
abbrev cX12_letter : ByteArray := prog_14_method_112_code
def yX12_letter : MethodName := ⟨RX12, "letter", "(II)I"⟩
abbrev cX12_led : ByteArray := prog_14_method_113_code
def yX12_led : MethodName := ⟨RX12, "led", "(I)I"⟩
abbrev cX12_demand : ByteArray := prog_14_method_114_code
def yX12_demand : MethodName := ⟨RX12, "demand", "(III)I"⟩
abbrev cX12_load : ByteArray := prog_14_method_115_code
def yX12_load : MethodName := ⟨RX12, "load", "(II)I"⟩
abbrev cX12_units : ByteArray := prog_14_method_116_code
def yX12_units : MethodName := ⟨RX12, "units", "(I)I"⟩
abbrev cX12_nodeOf : ByteArray := prog_14_method_117_code
def yX12_nodeOf : MethodName := ⟨RX12, "nodeOf", "(II)I"⟩
abbrev cX12_aim : ByteArray := prog_14_method_118_code
def yX12_aim : MethodName := ⟨RX12, "aim", "(I)I"⟩
abbrev cX12_costOf : ByteArray := prog_14_method_119_code
def yX12_costOf : MethodName := ⟨RX12, "costOf", "(IIII)I"⟩
abbrev cX12_least : ByteArray := prog_14_method_120_code
def yX12_least : MethodName := ⟨RX12, "least", "(I)I"⟩
abbrev cX12_differ : ByteArray := prog_14_method_121_code
def yX12_differ : MethodName := ⟨RX12, "differ", "(II)J"⟩
abbrev cX12_clear : ByteArray := prog_14_method_122_code
def yX12_clear : MethodName := ⟨RX12, "clear", "()I"⟩
abbrev cX12_isWished : ByteArray := prog_14_method_123_code
def yX12_isWished : MethodName := ⟨RX12, "isWished", "(II)Z"⟩
abbrev cX12_wish : ByteArray := prog_14_method_124_code
def yX12_wish : MethodName := ⟨RX12, "wish", "()I"⟩
abbrev cX12_states : ByteArray := prog_14_method_125_code
def yX12_states : MethodName := ⟨RX12, "states", "()I"⟩
abbrev cX12_open : ByteArray := prog_14_method_126_code
def yX12_open : MethodName := ⟨RX12, "open", "(I)V"⟩
abbrev cX12_isOffered : ByteArray := prog_14_method_127_code
def yX12_isOffered : MethodName := ⟨RX12, "isOffered", "(I)Z"⟩
abbrev cX12_acted : ByteArray := prog_14_method_128_code
def yX12_acted : MethodName := ⟨RX12, "acted", "(I)I"⟩
abbrev cX12_isRest : ByteArray := prog_14_method_129_code
def yX12_isRest : MethodName := ⟨RX12, "isRest", "(I)Z"⟩
abbrev cX12_rests : ByteArray := prog_14_method_130_code
def yX12_rests : MethodName := ⟨RX12, "rests", "()I"⟩
abbrev cX12_rest : ByteArray := prog_14_method_131_code
def yX12_rest : MethodName := ⟨RX12, "rest", "(II)I"⟩
abbrev cX12_tries : ByteArray := prog_14_method_132_code
def yX12_tries : MethodName := ⟨RX12, "tries", "(I)I"⟩
abbrev cX12_count : ByteArray := prog_14_method_133_code
def yX12_count : MethodName := ⟨RX12, "count", "(I)I"⟩
abbrev vwCl : List vw_C := [(RX0, TX0, 6), (RX1, TX1, 9), (RX2, TX2, 11), (RX3, TX3, 17), (RX4, TX4, 15), (RX5, TX5, 6), (RX6, TX6, 20), (RX7, TX7, 12), (RX8, TX8, 13), (RX9, TX9, 9), (RX10, TX10, 19), (RX11, TX11, 12), (RX12, TX12, 126)]
def lw_ok : List Cond := lw_tbl.filter goodWord
theorem lw_t1 {w : Cond} (h : w ∈ tables_1_1) : w ∈ lw_tbl := List.mem_append_right _ (show w ∈ tables_1 from List.mem_append_left _ h)
theorem lw_i1 {w : Cond} (i : Nat) (h : tables_1_1[i]? = some w) (hg : goodWord w = true) : w ∈ lw_ok := List.mem_filter.mpr ⟨lw_t1 (List.mem_of_getElem? h), hg⟩
theorem lw_t2 {w : Cond} (h : w ∈ tables_1_2) : w ∈ lw_tbl := List.mem_append_right _ (show w ∈ tables_1 from List.mem_append_right _ (List.mem_append_left _ h))
theorem lw_i2 {w : Cond} (i : Nat) (h : tables_1_2[i]? = some w) (hg : goodWord w = true) : w ∈ lw_ok := List.mem_filter.mpr ⟨lw_t2 (List.mem_of_getElem? h), hg⟩
theorem lw_t3 {w : Cond} (h : w ∈ tables_1_3) : w ∈ lw_tbl := List.mem_append_right _ (show w ∈ tables_1 from List.mem_append_right _ (List.mem_append_right _ (List.mem_append_left _ h)))
theorem lw_i3 {w : Cond} (i : Nat) (h : tables_1_3[i]? = some w) (hg : goodWord w = true) : w ∈ lw_ok := List.mem_filter.mpr ⟨lw_t3 (List.mem_of_getElem? h), hg⟩
theorem lw_t4 {w : Cond} (h : w ∈ tables_1_4) : w ∈ lw_tbl := List.mem_append_right _ (show w ∈ tables_1 from List.mem_append_right _ (List.mem_append_right _ (List.mem_append_right _ (List.mem_append_left _ h))))
theorem lw_i4 {w : Cond} (i : Nat) (h : tables_1_4[i]? = some w) (hg : goodWord w = true) : w ∈ lw_ok := List.mem_filter.mpr ⟨lw_t4 (List.mem_of_getElem? h), hg⟩
theorem lw_t5 {w : Cond} (h : w ∈ tables_1_5) : w ∈ lw_tbl := List.mem_append_right _ (show w ∈ tables_1 from List.mem_append_right _ (List.mem_append_right _ (List.mem_append_right _ (List.mem_append_right _ (List.mem_append_left _ h)))))
theorem lw_i5 {w : Cond} (i : Nat) (h : tables_1_5[i]? = some w) (hg : goodWord w = true) : w ∈ lw_ok := List.mem_filter.mpr ⟨lw_t5 (List.mem_of_getElem? h), hg⟩
theorem lw_t6 {w : Cond} (h : w ∈ tables_1_6) : w ∈ lw_tbl := List.mem_append_right _ (show w ∈ tables_1 from List.mem_append_right _ (List.mem_append_right _ (List.mem_append_right _ (List.mem_append_right _ (List.mem_append_right _ (List.mem_append_left _ h))))))
theorem lw_i6 {w : Cond} (i : Nat) (h : tables_1_6[i]? = some w) (hg : goodWord w = true) : w ∈ lw_ok := List.mem_filter.mpr ⟨lw_t6 (List.mem_of_getElem? h), hg⟩
theorem lw_t7 {w : Cond} (h : w ∈ tables_1_7) : w ∈ lw_tbl := List.mem_append_right _ (show w ∈ tables_1 from List.mem_append_right _ (List.mem_append_right _ (List.mem_append_right _ (List.mem_append_right _ (List.mem_append_right _ (List.mem_append_right _ (List.mem_append_left _ h)))))))
theorem lw_i7 {w : Cond} (i : Nat) (h : tables_1_7[i]? = some w) (hg : goodWord w = true) : w ∈ lw_ok := List.mem_filter.mpr ⟨lw_t7 (List.mem_of_getElem? h), hg⟩
theorem lw_t8 {w : Cond} (h : w ∈ tables_1_8) : w ∈ lw_tbl := List.mem_append_right _ (show w ∈ tables_1 from List.mem_append_right _ (List.mem_append_right _ (List.mem_append_right _ (List.mem_append_right _ (List.mem_append_right _ (List.mem_append_right _ (List.mem_append_right _ (List.mem_append_left _ h))))))))
theorem lw_i8 {w : Cond} (i : Nat) (h : tables_1_8[i]? = some w) (hg : goodWord w = true) : w ∈ lw_ok := List.mem_filter.mpr ⟨lw_t8 (List.mem_of_getElem? h), hg⟩
theorem lw_t9 {w : Cond} (h : w ∈ tables_1_9) : w ∈ lw_tbl := List.mem_append_right _ (show w ∈ tables_1 from List.mem_append_right _ (List.mem_append_right _ (List.mem_append_right _ (List.mem_append_right _ (List.mem_append_right _ (List.mem_append_right _ (List.mem_append_right _ (List.mem_append_right _ (List.mem_append_left _ h)))))))))
theorem lw_i9 {w : Cond} (i : Nat) (h : tables_1_9[i]? = some w) (hg : goodWord w = true) : w ∈ lw_ok := List.mem_filter.mpr ⟨lw_t9 (List.mem_of_getElem? h), hg⟩
theorem lw_t10 {w : Cond} (h : w ∈ tables_1_10) : w ∈ lw_tbl := List.mem_append_right _ (show w ∈ tables_1 from List.mem_append_right _ (List.mem_append_right _ (List.mem_append_right _ (List.mem_append_right _ (List.mem_append_right _ (List.mem_append_right _ (List.mem_append_right _ (List.mem_append_right _ (List.mem_append_right _ (List.mem_append_left _ h))))))))))
theorem lw_i10 {w : Cond} (i : Nat) (h : tables_1_10[i]? = some w) (hg : goodWord w = true) : w ∈ lw_ok := List.mem_filter.mpr ⟨lw_t10 (List.mem_of_getElem? h), hg⟩
theorem lw_t11 {w : Cond} (h : w ∈ tables_1_11) : w ∈ lw_tbl := List.mem_append_right _ (show w ∈ tables_1 from List.mem_append_right _ (List.mem_append_right _ (List.mem_append_right _ (List.mem_append_right _ (List.mem_append_right _ (List.mem_append_right _ (List.mem_append_right _ (List.mem_append_right _ (List.mem_append_right _ (List.mem_append_right _ (h)))))))))))
theorem lw_i11 {w : Cond} (i : Nat) (h : tables_1_11[i]? = some w) (hg : goodWord w = true) : w ∈ lw_ok := List.mem_filter.mpr ⟨lw_t11 (List.mem_of_getElem? h), hg⟩
theorem lw_in {w : Cond} (i : Nat) (h : lw_tbl[i]? = some w) (hg : goodWord w = true) : w ∈ lw_ok := List.mem_filter.mpr ⟨List.mem_of_getElem? h, hg⟩
abbrev gTy (c : Nat → ClassId) : List (ClassId × FieldType) := [(c 0, .int), (c 1, .long), (c 2, .byte), (c 3, .boolean), (c 4, .object RX7), (c 5, .object RX0), (c 6, .object RX9), (c 7, .object RX5)]
/-- the globals of this claim -/
abbrev gG (l : Launch) (D : va_G) (c : Nat → ClassId) (H0 : Heap) (sa : Nat × Nat × (Nat → Int32)) : sG := (l, D, gTy c, H0, vwCl, lw_ok, sa)
theorem gOk (l : Launch) (D : va_G) (c : Nat → ClassId) (H0 : Heap) (sa : Nat × Nat × (Nat → Int32)) : sOk (gG l D c H0 sa) := fun w hw => good_of_word (List.mem_filter.mp hw).2
abbrev mX0_init : sM := (yX0_init, cX0_init, 2, none)
abbrev mX0_goBy : sM := (yX0_goBy, cX0_goBy, 5, none)
abbrev mX0_firstUnlikeStep : sM := (yX0_firstUnlikeStep, cX0_firstUnlikeStep, 4, (some .int))
abbrev mX0_prefers : sM := (yX0_prefers, cX0_prefers, 5, (some .boolean))
abbrev mX0_compareAt : sM := (yX0_compareAt, cX0_compareAt, 3, (some .int))
abbrev mX1_init : sM := (yX1_init, cX1_init, 2, none)
abbrev mX1_addPolicy : sM := (yX1_addPolicy, cX1_addPolicy, 2, (some .int))
abbrev mX1_lets : sM := (yX1_lets, cX1_lets, 5, (some .boolean))
abbrev mX1_goThrough : sM := (yX1_goThrough, cX1_goThrough, 11, none)
abbrev mX1_isSo : sM := (yX1_isSo, cX1_isSo, 8, (some .boolean))
abbrev mX1_doActs : sM := (yX1_doActs, cX1_doActs, 7, none)
abbrev mX2_init : sM := (yX2_init, cX2_init, 2, none)
abbrev mX2_tieFor : sM := (yX2_tieFor, cX2_tieFor, 8, (some .int))
abbrev mX2_partnerFor : sM := (yX2_partnerFor, cX2_partnerFor, 5, (some .int))
abbrev mX2_travel : sM := (yX2_travel, cX2_travel, 6, (some .int))
abbrev mX2_send : sM := (yX2_send, cX2_send, 4, (some .int))
abbrev mX2_addDemand : sM := (yX2_addDemand, cX2_addDemand, 4, (some .int))
abbrev mX2_unitsOver : sM := (yX2_unitsOver, cX2_unitsOver, 6, (some .int))
abbrev mX2_unitsThat : sM := (yX2_unitsThat, cX2_unitsThat, 4, (some .int))
abbrev mX2_leastTable : sM := (yX2_leastTable, cX2_leastTable, 3, (some .int))
abbrev mX2_leastBelow : sM := (yX2_leastBelow, cX2_leastBelow, 6, (some .int))
abbrev mX2_isSplit : sM := (yX2_isSplit, cX2_isSplit, 7, (some .boolean))
abbrev mX2_aimBit : sM := (yX2_aimBit, cX2_aimBit, 1, (some .int))
abbrev mX2_unlikeAddresses : sM := (yX2_unlikeAddresses, cX2_unlikeAddresses, 8, (some .long))
abbrev mX2_layBorders : sM := (yX2_layBorders, cX2_layBorders, 5, (some .int))
abbrev mX2_insertBorder : sM := (yX2_insertBorder, cX2_insertBorder, 5, none)
abbrev mX3_init : sM := (yX3_init, cX3_init, 1, none)
abbrev mX3_read : sM := (yX3_read, cX3_read, 4, (some .int))
abbrev mX3_forget : sM := (yX3_forget, cX3_forget, 1, none)
abbrev mX3_readParts : sM := (yX3_readParts, cX3_readParts, 4, none)
abbrev mX3_note : sM := (yX3_note, cX3_note, 3, none)
abbrev mX3_pairAt : sM := (yX3_pairAt, cX3_pairAt, 2, (some .int))
abbrev mX3_fourAt : sM := (yX3_fourAt, cX3_fourAt, 2, (some .int))
abbrev mX3_readPrefixes : sM := (yX3_readPrefixes, cX3_readPrefixes, 10, (some .int))
abbrev mX3_readAttributes : sM := (yX3_readAttributes, cX3_readAttributes, 7, none)
abbrev mX3_readAttribute : sM := (yX3_readAttribute, cX3_readAttribute, 8, none)
abbrev mX3_carry : sM := (yX3_carry, cX3_carry, 3, none)
abbrev mX3_readOrigin : sM := (yX3_readOrigin, cX3_readOrigin, 3, (some .boolean))
abbrev mX3_readCost : sM := (yX3_readCost, cX3_readCost, 4, (some .boolean))
abbrev mX3_readMarks : sM := (yX3_readMarks, cX3_readMarks, 4, (some .boolean))
abbrev mX3_keepMark : sM := (yX3_keepMark, cX3_keepMark, 3, none)
abbrev mX3_readWay : sM := (yX3_readWay, cX3_readWay, 9, (some .boolean))
abbrev mX3_sortWithoutSign : sM := (yX3_sortWithoutSign, cX3_sortWithoutSign, 6, none)
abbrev mX3_told : sM := (yX3_told, cX3_told, 2, (some .int))
abbrev mX3_placeTold : sM := (yX3_placeTold, cX3_placeTold, 2, (some .int))
abbrev mX3_toldInAll : sM := (yX3_toldInAll, cX3_toldInAll, 2, (some .int))
abbrev mX3_toldOfRow : sM := (yX3_toldOfRow, cX3_toldOfRow, 3, (some .int))
abbrev mX3_putDown : sM := (yX3_putDown, cX3_putDown, 6, (some .int))
abbrev mX3_putAttributes : sM := (yX3_putAttributes, cX3_putAttributes, 3, none)
abbrev mX3_putHead : sM := (yX3_putHead, cX3_putHead, 4, none)
abbrev mX3_putPrefix : sM := (yX3_putPrefix, cX3_putPrefix, 5, none)
abbrev mX3_putNumber : sM := (yX3_putNumber, cX3_putNumber, 4, none)
abbrev mX4_init : sM := (yX4_init, cX4_init, 1, none)
abbrev mX4_isWish : sM := (yX4_isWish, cX4_isWish, 4, (some .boolean))
abbrev mX4_find : sM := (yX4_find, cX4_find, 9, (some .int))
abbrev mX4_addWish : sM := (yX4_addWish, cX4_addWish, 5, (some .int))
abbrev mX4_forget : sM := (yX4_forget, cX4_forget, 3, (some .int))
abbrev mX4_prepare : sM := (yX4_prepare, cX4_prepare, 3, none)
abbrev mX4_need : sM := (yX4_need, cX4_need, 3, none)
abbrev mX4_actOf : sM := (yX4_actOf, cX4_actOf, 5, (some .int))
abbrev mX4_isRest : sM := (yX4_isRest, cX4_isRest, 2, (some .boolean))
abbrev mX4_unfold : sM := (yX4_unfold, cX4_unfold, 3, none)
abbrev mX4_figure : sM := (yX4_figure, cX4_figure, 4, (some .int))
abbrev mX4_countUp : sM := (yX4_countUp, cX4_countUp, 2, none)
abbrev mX4_findRests : sM := (yX4_findRests, cX4_findRests, 2, none)
abbrev mX4_keepRest : sM := (yX4_keepRest, cX4_keepRest, 2, none)
abbrev mX4_wayInRest : sM := (yX4_wayInRest, cX4_wayInRest, 4, (some .int))
abbrev mX4_explore : sM := (yX4_explore, cX4_explore, 3, none)
abbrev mX4_makeRoom : sM := (yX4_makeRoom, cX4_makeRoom, 2, none)
abbrev mX4_spread : sM := (yX4_spread, cX4_spread, 5, (some .int))
abbrev mX4_addNeighbours : sM := (yX4_addNeighbours, cX4_addNeighbours, 6, (some .int))
abbrev mX4_leadBack : sM := (yX4_leadBack, cX4_leadBack, 3, (some .int))
abbrev mX4_addSources : sM := (yX4_addSources, cX4_addSources, 7, (some .int))
abbrev mX5_init : sM := (yX5_init, cX5_init, 7, none)
abbrev mX5_tells : sM := (yX5_tells, cX5_tells, 13, (some .boolean))
abbrev mX6_init : sM := (yX6_init, cX6_init, 1, none)
abbrev mX6_read : sM := (yX6_read, cX6_read, 5, none)
abbrev mX6_result : sM := (yX6_result, cX6_result, 1, (some (.object "DomainHouse$Policy")))
abbrev mX6_split : sM := (yX6_split, cX6_split, 6, none)
abbrev mX6_isLetter : sM := (yX6_isLetter, cX6_isLetter, 1, (some .boolean))
abbrev mX6_isFigure : sM := (yX6_isFigure, cX6_isFigure, 1, (some .boolean))
abbrev mX6_putNumber : sM := (yX6_putNumber, cX6_putNumber, 6, none)
abbrev mX6_putToken : sM := (yX6_putToken, cX6_putToken, 4, none)
abbrev mX6_wordAt : sM := (yX6_wordAt, cX6_wordAt, 8, (some .int))
abbrev mX6_fail : sM := (yX6_fail, cX6_fail, 2, none)
abbrev mX6_step : sM := (yX6_step, cX6_step, 1, none)
abbrev mX6_take : sM := (yX6_take, cX6_take, 2, (some .boolean))
abbrev mX6_expect : sM := (yX6_expect, cX6_expect, 2, none)
abbrev mX6_number : sM := (yX6_number, cX6_number, 4, (some .int))
abbrev mX6_readRow : sM := (yX6_readRow, cX6_readRow, 5, none)
abbrev mX6_isAct : sM := (yX6_isAct, cX6_isAct, 1, (some .boolean))
abbrev mX6_readAct : sM := (yX6_readAct, cX6_readAct, 2, none)
abbrev mX6_readTest : sM := (yX6_readTest, cX6_readTest, 3, none)
abbrev mX6_isTest : sM := (yX6_isTest, cX6_isTest, 1, (some .boolean))
abbrev mX6_oneOf : sM := (yX6_oneOf, cX6_oneOf, 4, (some .int))
abbrev mX6_verdictOf : sM := (yX6_verdictOf, cX6_verdictOf, 1, (some .int))
abbrev mX6_relation : sM := (yX6_relation, cX6_relation, 2, (some .int))
abbrev mX6_readHeldIn : sM := (yX6_readHeldIn, cX6_readHeldIn, 6, none)
abbrev mX6_readWay : sM := (yX6_readWay, cX6_readWay, 2, none)
abbrev mX6_readBranches : sM := (yX6_readBranches, cX6_readBranches, 15, none)
abbrev mX6_beginsPiece : sM := (yX6_beginsPiece, cX6_beginsPiece, 1, (some .boolean))
abbrev mX6_readGroup : sM := (yX6_readGroup, cX6_readGroup, 2, none)
abbrev mX6_readPlace : sM := (yX6_readPlace, cX6_readPlace, 2, none)
abbrev mX6_readRepeat : sM := (yX6_readRepeat, cX6_readRepeat, 4, none)
abbrev mX6_join : sM := (yX6_join, cX6_join, 6, none)
abbrev mX6_putTest : sM := (yX6_putTest, cX6_putTest, 6, none)
abbrev mX6_put : sM := (yX6_put, cX6_put, 2, none)
abbrev mX7_init : sM := (yX7_init, cX7_init, 1, none)
abbrev mX7_begin : sM := (yX7_begin, cX7_begin, 3, none)
abbrev mX7_become : sM := (yX7_become, cX7_become, 2, none)
abbrev mX7_vanish : sM := (yX7_vanish, cX7_vanish, 1, none)
abbrev mX7_isAlike : sM := (yX7_isAlike, cX7_isAlike, 3, (some .boolean))
abbrev mX7_passes : sM := (yX7_passes, cX7_passes, 3, (some .boolean))
abbrev mX7_sharesFirst : sM := (yX7_sharesFirst, cX7_sharesFirst, 2, (some .boolean))
abbrev mX7_putInFront : sM := (yX7_putInFront, cX7_putInFront, 4, (some .boolean))
abbrev mX7_hasMark : sM := (yX7_hasMark, cX7_hasMark, 3, (some .boolean))
abbrev mX7_addMark : sM := (yX7_addMark, cX7_addMark, 5, none)
abbrev mX7_dropMark : sM := (yX7_dropMark, cX7_dropMark, 4, none)
abbrev mX8_init : sM := (yX8_init, cX8_init, 4, none)
abbrev mX8_slotOf : sM := (yX8_slotOf, cX8_slotOf, 4, (some .int))
abbrev mX8_schedule : sM := (yX8_schedule, cX8_schedule, 4, none)
abbrev mX8_cancel : sM := (yX8_cancel, cX8_cancel, 3, none)
abbrev mX8_doNext : sM := (yX8_doNext, cX8_doNext, 6, (some .boolean))
abbrev mX8_passTo : sM := (yX8_passTo, cX8_passTo, 2, none)
abbrev mX8_handOver : sM := (yX8_handOver, cX8_handOver, 5, none)
abbrev mX8_takeIn : sM := (yX8_takeIn, cX8_takeIn, 10, (some .int))
abbrev mX8_silence : sM := (yX8_silence, cX8_silence, 6, none)
abbrev mX8_tellAllAnew : sM := (yX8_tellAllAnew, cX8_tellAllAnew, 4, none)
abbrev mX8_lookAtAll : sM := (yX8_lookAtAll, cX8_lookAtAll, 3, none)
abbrev mX8_sayAll : sM := (yX8_sayAll, cX8_sayAll, 4, none)
abbrev mX8_look : sM := (yX8_look, cX8_look, 8, none)
abbrev mX8_gather : sM := (yX8_gather, cX8_gather, 8, none)
abbrev mX8_pickPlain : sM := (yX8_pickPlain, cX8_pickPlain, 3, (some .int))
abbrev mX8_pickGrouped : sM := (yX8_pickGrouped, cX8_pickGrouped, 4, (some .int))
abbrev mX8_lastStanding : sM := (yX8_lastStanding, cX8_lastStanding, 5, (some .int))
abbrev mX8_isFirstOfGroup : sM := (yX8_isFirstOfGroup, cX8_isFirstOfGroup, 3, (some .boolean))
abbrev mX8_bestOfGroup : sM := (yX8_bestOfGroup, cX8_bestOfGroup, 5, (some .int))
abbrev mX8_insertWinner : sM := (yX8_insertWinner, cX8_insertWinner, 4, none)
abbrev mX8_groupOrder : sM := (yX8_groupOrder, cX8_groupOrder, 2, (some .long))
abbrev mX8_say : sM := (yX8_say, cX8_say, 7, none)
abbrev mX8_compose : sM := (yX8_compose, cX8_compose, 7, none)
abbrev mX8_reason : sM := (yX8_reason, cX8_reason, 10, (some .int))
abbrev mX8_candidateOver : sM := (yX8_candidateOver, cX8_candidateOver, 3, (some .int))
abbrev mX8_threeInRing : sM := (yX8_threeInRing, cX8_threeInRing, 9, (some .int))
abbrev mX9_init : sM := (yX9_init, cX9_init, 5, none)
abbrev mX9_placeOf : sM := (yX9_placeOf, cX9_placeOf, 2, (some .int))
abbrev mX9_end : sM := (yX9_end, cX9_end, 2, (some .int))
abbrev mX9_sideOf : sM := (yX9_sideOf, cX9_sideOf, 2, (some .int))
abbrev mX9_partnerRole : sM := (yX9_partnerRole, cX9_partnerRole, 2, (some .int))
abbrev mX10_init : sM := (yX10_init, cX10_init, 1, none)
abbrev mX10_maskOf : sM := (yX10_maskOf, cX10_maskOf, 1, (some .int))
abbrev mX10_addPrefix : sM := (yX10_addPrefix, cX10_addPrefix, 3, (some .int))
abbrev mX10_findPrefix : sM := (yX10_findPrefix, cX10_findPrefix, 4, (some .int))
abbrev mX10_addDomain : sM := (yX10_addDomain, cX10_addDomain, 1, (some .int))
abbrev mX10_addTie : sM := (yX10_addTie, cX10_addTie, 4, (some .int))
abbrev mX10_tieBetween : sM := (yX10_tieBetween, cX10_tieBetween, 5, (some .int))
abbrev mX10_coneOf : sM := (yX10_coneOf, cX10_coneOf, 6, (some .int))
abbrev mX10_findRing : sM := (yX10_findRing, cX10_findRing, 3, (some .int))
abbrev mX10_shortestRing : sM := (yX10_shortestRing, cX10_shortestRing, 7, (some .int))
abbrev mX10_fillRing : sM := (yX10_fillRing, cX10_fillRing, 4, none)
abbrev mX10_leastCustomer : sM := (yX10_leastCustomer, cX10_leastCustomer, 6, (some .int))
abbrev mX10_firstWrongStep : sM := (yX10_firstWrongStep, cX10_firstWrongStep, 8, (some .int))
abbrev mX10_addRight : sM := (yX10_addRight, cX10_addRight, 7, (some .int))
abbrev mX10_verdictOn : sM := (yX10_verdictOn, cX10_verdictOn, 11, (some .int))
abbrev mX11_init : sM := (yX11_init, cX11_init, 1, none)
abbrev mX11_feed : sM := (yX11_feed, cX11_feed, 6, (some .int))
abbrev mX11_feedNumber : sM := (yX11_feedNumber, cX11_feedNumber, 3, none)
abbrev mX11_cut : sM := (yX11_cut, cX11_cut, 3, (some .int))
abbrev mX11_prefix : sM := (yX11_prefix, cX11_prefix, 3, (some .int))
abbrev mX11_domain : sM := (yX11_domain, cX11_domain, 1, (some .int))
abbrev mX11_tie : sM := (yX11_tie, cX11_tie, 4, (some .int))
abbrev mX11_pace : sM := (yX11_pace, cX11_pace, 4, (some .int))
abbrev mX11_raise : sM := (yX11_raise, cX11_raise, 4, (some .int))
abbrev mX11_cone : sM := (yX11_cone, cX11_cone, 4, (some .int))
abbrev mX11_ring : sM := (yX11_ring, cX11_ring, 3, (some .int))
abbrev mX11_walk : sM := (yX11_walk, cX11_walk, 2, (some .int))
abbrev mX11_letWay : sM := (yX11_letWay, cX11_letWay, 1, (some .int))
abbrev mX11_today : sM := (yX11_today, cX11_today, 3, (some .int))
abbrev mX11_right : sM := (yX11_right, cX11_right, 8, (some .int))
abbrev mX11_strike : sM := (yX11_strike, cX11_strike, 3, (some .int))
abbrev mX11_verdict : sM := (yX11_verdict, cX11_verdict, 5, (some .int))
abbrev mX11_policy : sM := (yX11_policy, cX11_policy, 1, (some .int))
abbrev mX11_fault : sM := (yX11_fault, cX11_fault, 1, (some .int))
abbrev mX11_route : sM := (yX11_route, cX11_route, 5, (some .int))
abbrev mX11_judge : sM := (yX11_judge, cX11_judge, 6, (some .int))
abbrev mX11_hand : sM := (yX11_hand, cX11_hand, 2, (some .int))
abbrev mX11_rowInHand : sM := (yX11_rowInHand, cX11_rowInHand, 2, (some .int))
abbrev mX11_use : sM := (yX11_use, cX11_use, 5, (some .int))
abbrev mX11_rule : sM := (yX11_rule, cX11_rule, 4, (some .int))
abbrev mX11_isRule : sM := (yX11_isRule, cX11_isRule, 4, (some .boolean))
abbrev mX11_announce : sM := (yX11_announce, cX11_announce, 4, (some .int))
abbrev mX11_withdraw : sM := (yX11_withdraw, cX11_withdraw, 3, (some .int))
abbrev mX11_go : sM := (yX11_go, cX11_go, 3, (some .int))
abbrev mX11_until : sM := (yX11_until, cX11_until, 3, (some .int))
abbrev mX11_picked : sM := (yX11_picked, cX11_picked, 4, (some .int))
abbrev mX11_heard : sM := (yX11_heard, cX11_heard, 7, (some .int))
abbrev mX11_why : sM := (yX11_why, cX11_why, 4, (some .int))
abbrev mX11_three : sM := (yX11_three, cX11_three, 4, (some .int))
abbrev mX11_message : sM := (yX11_message, cX11_message, 2, (some .int))
abbrev mX11_part : sM := (yX11_part, cX11_part, 2, (some .int))
abbrev mX11_hear : sM := (yX11_hear, cX11_hear, 3, (some .int))
abbrev mX11_write : sM := (yX11_write, cX11_write, 5, (some .int))
abbrev mX11_octet : sM := (yX11_octet, cX11_octet, 2, (some .int))
abbrev mX11_letter : sM := (yX11_letter, cX11_letter, 3, (some .int))
abbrev mX11_led : sM := (yX11_led, cX11_led, 2, (some .int))
abbrev mX11_demand : sM := (yX11_demand, cX11_demand, 4, (some .int))
abbrev mX11_load : sM := (yX11_load, cX11_load, 4, (some .int))
abbrev mX11_units : sM := (yX11_units, cX11_units, 2, (some .int))
abbrev mX11_least : sM := (yX11_least, cX11_least, 2, (some .int))
abbrev mX11_differ : sM := (yX11_differ, cX11_differ, 3, (some .long))
abbrev mX11_clear : sM := (yX11_clear, cX11_clear, 1, (some .int))
abbrev mX11_wish : sM := (yX11_wish, cX11_wish, 1, (some .int))
abbrev mX11_rests : sM := (yX11_rests, cX11_rests, 1, (some .int))
abbrev mX11_rest : sM := (yX11_rest, cX11_rest, 3, (some .int))
abbrev mX11_tries : sM := (yX11_tries, cX11_tries, 2, (some .int))
abbrev mX11_count : sM := (yX11_count, cX11_count, 2, (some .int))
abbrev mX11_isDomain : sM := (yX11_isDomain, cX11_isDomain, 2, (some .boolean))
abbrev mX11_isPrefix : sM := (yX11_isPrefix, cX11_isPrefix, 2, (some .boolean))
abbrev mX11_isTie : sM := (yX11_isTie, cX11_isTie, 2, (some .boolean))
abbrev mX11_isEither : sM := (yX11_isEither, cX11_isEither, 1, (some .boolean))
abbrev mX12_in : sM := (yX12_in, cX12_in, 3, (some .boolean))
abbrev mX12_feed : sM := (yX12_feed, cX12_feed, 8, (some .int))
abbrev mX12_cut : sM := (yX12_cut, cX12_cut, 3, (some .int))
abbrev mX12_mask : sM := (yX12_mask, cX12_mask, 1, (some .int))
abbrev mX12_holds : sM := (yX12_holds, cX12_holds, 3, (some .boolean))
abbrev mX12_isPrefix : sM := (yX12_isPrefix, cX12_isPrefix, 2, (some .boolean))
abbrev mX12_prefixOf : sM := (yX12_prefixOf, cX12_prefixOf, 4, (some .int))
abbrev mX12_prefix : sM := (yX12_prefix, cX12_prefix, 3, (some .int))
abbrev mX12_isDomain : sM := (yX12_isDomain, cX12_isDomain, 2, (some .boolean))
abbrev mX12_isTie : sM := (yX12_isTie, cX12_isTie, 2, (some .boolean))
abbrev mX12_tieOf : sM := (yX12_tieOf, cX12_tieOf, 4, (some .int))
abbrev mX12_provides : sM := (yX12_provides, cX12_provides, 4, (some .boolean))
abbrev mX12_domain : sM := (yX12_domain, cX12_domain, 1, (some .int))
abbrev mX12_tie : sM := (yX12_tie, cX12_tie, 5, (some .int))
abbrev mX12_pace : sM := (yX12_pace, cX12_pace, 4, (some .int))
abbrev mX12_cone : sM := (yX12_cone, cX12_cone, 6, (some .int))
abbrev mX12_ring : sM := (yX12_ring, cX12_ring, 8, (some .int))
abbrev mX12_walk : sM := (yX12_walk, cX12_walk, 2, (some .int))
abbrev mX12_letWay : sM := (yX12_letWay, cX12_letWay, 5, (some .int))
abbrev mX12_today : sM := (yX12_today, cX12_today, 3, (some .int))
abbrev mX12_right : sM := (yX12_right, cX12_right, 7, (some .int))
abbrev mX12_strike : sM := (yX12_strike, cX12_strike, 3, (some .int))
abbrev mX12_judged : sM := (yX12_judged, cX12_judged, 5, (some .int))
abbrev mX12_judgedAnew : sM := (yX12_judgedAnew, cX12_judgedAnew, 9, (some .int))
abbrev mX12_verdict : sM := (yX12_verdict, cX12_verdict, 5, (some .int))
abbrev mX12_copy : sM := (yX12_copy, cX12_copy, 4, none)
abbrev mX12_nothing : sM := (yX12_nothing, cX12_nothing, 2, none)
abbrev mX12_isThere : sM := (yX12_isThere, cX12_isThere, 2, (some .boolean))
abbrev mX12_same : sM := (yX12_same, cX12_same, 5, (some .boolean))
abbrev mX12_marked : sM := (yX12_marked, cX12_marked, 5, (some .boolean))
abbrev mX12_addMark : sM := (yX12_addMark, cX12_addMark, 5, none)
abbrev mX12_dropMark : sM := (yX12_dropMark, cX12_dropMark, 6, none)
abbrev mX12_front : sM := (yX12_front, cX12_front, 5, (some .boolean))
abbrev mX12_isIn : sM := (yX12_isIn, cX12_isIn, 5, (some .boolean))
abbrev mX12_wordOf : sM := (yX12_wordOf, cX12_wordOf, 2, (some .int))
abbrev mX12_wrong : sM := (yX12_wrong, cX12_wrong, 2, none)
abbrev mX12_byteAt : sM := (yX12_byteAt, cX12_byteAt, 2, (some .int))
abbrev mX12_next : sM := (yX12_next, cX12_next, 6, none)
abbrev mX12_isSign : sM := (yX12_isSign, cX12_isSign, 2, (some .boolean))
abbrev mX12_isWord : sM := (yX12_isWord, cX12_isWord, 2, (some .boolean))
abbrev mX12_sign : sM := (yX12_sign, cX12_sign, 2, none)
abbrev mX12_within : sM := (yX12_within, cX12_within, 4, (some .int))
abbrev mX12_openLevel : sM := (yX12_openLevel, cX12_openLevel, 1, none)
abbrev mX12_freshRow : sM := (yX12_freshRow, cX12_freshRow, 1, none)
abbrev mX12_endRow : sM := (yX12_endRow, cX12_endRow, 2, none)
abbrev mX12_follows : sM := (yX12_follows, cX12_follows, 6, none)
abbrev mX12_piece : sM := (yX12_piece, cX12_piece, 8, none)
abbrev mX12_wayTest : sM := (yX12_wayTest, cX12_wayTest, 3, none)
abbrev mX12_addressRead : sM := (yX12_addressRead, cX12_addressRead, 3, (some .int))
abbrev mX12_test : sM := (yX12_test, cX12_test, 4, none)
abbrev mX12_actRead : sM := (yX12_actRead, cX12_actRead, 4, none)
abbrev mX12_rowRead : sM := (yX12_rowRead, cX12_rowRead, 3, none)
abbrev mX12_policy : sM := (yX12_policy, cX12_policy, 1, (some .int))
abbrev mX12_fault : sM := (yX12_fault, cX12_fault, 1, (some .int))
abbrev mX12_waysMatch : sM := (yX12_waysMatch, cX12_waysMatch, 11, (some .boolean))
abbrev mX12_tieWord : sM := (yX12_tieWord, cX12_tieWord, 4, (some .int))
abbrev mX12_related : sM := (yX12_related, cX12_related, 4, (some .boolean))
abbrev mX12_isSo : sM := (yX12_isSo, cX12_isSo, 10, (some .boolean))
abbrev mX12_through : sM := (yX12_through, cX12_through, 14, (some .boolean))
abbrev mX12_route : sM := (yX12_route, cX12_route, 6, (some .int))
abbrev mX12_judge : sM := (yX12_judge, cX12_judge, 4, (some .int))
abbrev mX12_hand : sM := (yX12_hand, cX12_hand, 2, (some .int))
abbrev mX12_init : sM := (yX12_init, cX12_init, 3, none)
abbrev mX12_slot : sM := (yX12_slot, cX12_slot, 3, (some .int))
abbrev mX12_sideOf : sM := (yX12_sideOf, cX12_sideOf, 3, (some .int))
abbrev mX12_isAt : sM := (yX12_isAt, cX12_isAt, 3, (some .boolean))
abbrev mX12_partnerOf : sM := (yX12_partnerOf, cX12_partnerOf, 3, (some .int))
abbrev mX12_unlike : sM := (yX12_unlike, cX12_unlike, 13, (some .int))
abbrev mX12_beats : sM := (yX12_beats, cX12_beats, 6, (some .boolean))
abbrev mX12_candidate : sM := (yX12_candidate, cX12_candidate, 6, (some .int))
abbrev mX12_candidates : sM := (yX12_candidates, cX12_candidates, 4, none)
abbrev mX12_best : sM := (yX12_best, cX12_best, 5, (some .int))
abbrev mX12_isBelow : sM := (yX12_isBelow, cX12_isBelow, 2, (some .boolean))
abbrev mX12_pick : sM := (yX12_pick, cX12_pick, 11, (some .int))
abbrev mX12_look : sM := (yX12_look, cX12_look, 6, none)
abbrev mX12_say : sM := (yX12_say, cX12_say, 8, none)
abbrev mX12_lookAll : sM := (yX12_lookAll, cX12_lookAll, 3, none)
abbrev mX12_sayAll : sM := (yX12_sayAll, cX12_sayAll, 4, none)
abbrev mX12_rethink : sM := (yX12_rethink, cX12_rethink, 3, none)
abbrev mX12_raise : sM := (yX12_raise, cX12_raise, 5, (some .int))
abbrev mX12_use : sM := (yX12_use, cX12_use, 6, (some .int))
abbrev mX12_rule : sM := (yX12_rule, cX12_rule, 8, (some .int))
abbrev mX12_announce : sM := (yX12_announce, cX12_announce, 5, (some .int))
abbrev mX12_withdraw : sM := (yX12_withdraw, cX12_withdraw, 3, (some .int))
abbrev mX12_nextEvent : sM := (yX12_nextEvent, cX12_nextEvent, 7, (some .int))
abbrev mX12_eventAt : sM := (yX12_eventAt, cX12_eventAt, 2, (some .int))
abbrev mX12_doEvent : sM := (yX12_doEvent, cX12_doEvent, 7, none)
abbrev mX12_go : sM := (yX12_go, cX12_go, 3, (some .int))
abbrev mX12_until : sM := (yX12_until, cX12_until, 4, (some .int))
abbrev mX12_picked : sM := (yX12_picked, cX12_picked, 4, (some .int))
abbrev mX12_heard : sM := (yX12_heard, cX12_heard, 7, (some .int))
abbrev mX12_why : sM := (yX12_why, cX12_why, 9, (some .int))
abbrev mX12_three : sM := (yX12_three, cX12_three, 7, (some .int))
abbrev mX12_fails : sM := (yX12_fails, cX12_fails, 3, none)
abbrev mX12_number : sM := (yX12_number, cX12_number, 5, (some .int))
abbrev mX12_partOf : sM := (yX12_partOf, cX12_partOf, 8, (some .boolean))
abbrev mX12_originRight : sM := (yX12_originRight, cX12_originRight, 3, (some .boolean))
abbrev mX12_wayRight : sM := (yX12_wayRight, cX12_wayRight, 11, (some .boolean))
abbrev mX12_costRight : sM := (yX12_costRight, cX12_costRight, 4, (some .boolean))
abbrev mX12_marksRight : sM := (yX12_marksRight, cX12_marksRight, 5, (some .boolean))
abbrev mX12_attributes : sM := (yX12_attributes, cX12_attributes, 12, none)
abbrev mX12_message : sM := (yX12_message, cX12_message, 5, (some .int))
abbrev mX12_part : sM := (yX12_part, cX12_part, 5, (some .int))
abbrev mX12_hear : sM := (yX12_hear, cX12_hear, 7, (some .int))
abbrev mX12_octet1 : sM := (yX12_octet1, cX12_octet1, 2, none)
abbrev mX12_octet4 : sM := (yX12_octet4, cX12_octet4, 3, none)
abbrev mX12_prefixOut : sM := (yX12_prefixOut, cX12_prefixOut, 3, none)
abbrev mX12_write : sM := (yX12_write, cX12_write, 10, (some .int))
abbrev mX12_octet : sM := (yX12_octet, cX12_octet, 2, (some .int))
abbrev mX12_sends : sM := (yX12_sends, cX12_sends, 5, (some .int))
abbrev mX12_goes : sM := (yX12_goes, cX12_goes, 6, (some .int))
abbrev mX12_letter : sM := (yX12_letter, cX12_letter, 5, (some .int))
abbrev mX12_led : sM := (yX12_led, cX12_led, 2, (some .int))
abbrev mX12_demand : sM := (yX12_demand, cX12_demand, 4, (some .int))
abbrev mX12_load : sM := (yX12_load, cX12_load, 6, (some .int))
abbrev mX12_units : sM := (yX12_units, cX12_units, 4, (some .int))
abbrev mX12_nodeOf : sM := (yX12_nodeOf, cX12_nodeOf, 4, (some .int))
abbrev mX12_aim : sM := (yX12_aim, cX12_aim, 1, (some .int))
abbrev mX12_costOf : sM := (yX12_costOf, cX12_costOf, 6, (some .int))
abbrev mX12_least : sM := (yX12_least, cX12_least, 9, (some .int))
abbrev mX12_differ : sM := (yX12_differ, cX12_differ, 10, (some .long))
abbrev mX12_clear : sM := (yX12_clear, cX12_clear, 3, (some .int))
abbrev mX12_isWished : sM := (yX12_isWished, cX12_isWished, 5, (some .boolean))
abbrev mX12_wish : sM := (yX12_wish, cX12_wish, 5, (some .int))
abbrev mX12_states : sM := (yX12_states, cX12_states, 3, (some .int))
abbrev mX12_open : sM := (yX12_open, cX12_open, 3, none)
abbrev mX12_isOffered : sM := (yX12_isOffered, cX12_isOffered, 6, (some .boolean))
abbrev mX12_acted : sM := (yX12_acted, cX12_acted, 3, (some .int))
abbrev mX12_isRest : sM := (yX12_isRest, cX12_isRest, 4, (some .boolean))
abbrev mX12_rests : sM := (yX12_rests, cX12_rests, 4, (some .int))
abbrev mX12_rest : sM := (yX12_rest, cX12_rest, 6, (some .int))
abbrev mX12_tries : sM := (yX12_tries, cX12_tries, 12, (some .int))
abbrev mX12_count : sM := (yX12_count, cX12_count, 4, (some .int))
end
section
theorem wI_DomainHouseLaw : Cond.initialized "DomainHouseLaw" ∈ lw_ok := lw_i1 0 rfl rfl
theorem wI_X11 : Cond.initialized RX11 ∈ lw_ok := lw_i1 1 rfl rfl
theorem wI_X7 : Cond.initialized RX7 ∈ lw_ok := lw_i1 2 rfl rfl
theorem wI_X10 : Cond.initialized RX10 ∈ lw_ok := lw_i1 3 rfl rfl
theorem wI_X1 : Cond.initialized RX1 ∈ lw_ok := lw_i1 4 rfl rfl
theorem wI_X6 : Cond.initialized RX6 ∈ lw_ok := lw_i1 5 rfl rfl
theorem wI_X8 : Cond.initialized RX8 ∈ lw_ok := lw_i1 6 rfl rfl
theorem wI_Arrays : Cond.initialized "java/util/Arrays" ∈ lw_ok := lw_i1 7 rfl rfl
theorem wI_X3 : Cond.initialized RX3 ∈ lw_ok := lw_i1 8 rfl rfl
theorem wI_X2 : Cond.initialized RX2 ∈ lw_ok := lw_i1 9 rfl rfl
theorem wI_X4 : Cond.initialized RX4 ∈ lw_ok := lw_i1 10 rfl rfl
theorem wI_X12 : Cond.initialized RX12 ∈ lw_ok := lw_i1 11 rfl rfl
theorem wI_X0 : Cond.initialized RX0 ∈ lw_ok := lw_i1 12 rfl rfl
theorem wI_X9 : Cond.initialized RX9 ∈ lw_ok := lw_i1 13 rfl rfl
theorem wI_System : Cond.initialized "java/lang/System" ∈ lw_ok := lw_i1 14 rfl rfl
theorem wI_Integer : Cond.initialized "java/lang/Integer" ∈ lw_ok := lw_i1 15 rfl rfl
theorem wI_Math : Cond.initialized "java/lang/Math" ∈ lw_ok := lw_i1 16 rfl rfl
theorem wI_String : Cond.initialized "java/lang/String" ∈ lw_ok := lw_i1 17 rfl rfl
theorem wI_StringLatin1 : Cond.initialized "java/lang/StringLatin1" ∈ lw_ok := lw_i1 18 rfl rfl
theorem wI_Preconditions : Cond.initialized "jdk/internal/util/Preconditions" ∈ lw_ok := lw_i1 19 rfl rfl
theorem wI_StringUTF16 : Cond.initialized "java/lang/StringUTF16" ∈ lw_ok := lw_i1 20 rfl rfl
theorem wI_X5 : Cond.initialized RX5 ∈ lw_ok := lw_i1 21 rfl rfl
theorem wC_DomainHouseLaw_7 : Cond.classLink "DomainHouseLaw" 7 RX11 ∈ lw_ok := lw_i1 22 rfl rfl
theorem wN_X11 : Cond.instantiable RX11 12 ∈ lw_ok := lw_i1 23 rfl rfl
theorem wM_DomainHouseLaw_9 : Cond.methodLink "DomainHouseLaw" 9 yX11_init ∈ lw_ok := lw_i1 24 rfl rfl
theorem wV_X11_init : Cond.instanceMethod yX11_init ∈ lw_ok := lw_i1 25 rfl rfl
theorem wK_X11_init : Cond.code yX11_init cX11_init 1 none ∈ lw_ok := lw_i1 26 rfl rfl
theorem wM_X11_1 : Cond.methodLink RX11 1 objectInit ∈ lw_ok := lw_i1 27 rfl rfl
theorem wV_obj : Cond.instanceMethod objectInit ∈ lw_ok := lw_i1 28 rfl rfl
theorem wK_obj : Cond.code objectInit ⟨#[0xb1]⟩ 1 none ∈ lw_ok := lw_i1 29 rfl rfl
theorem wC_X11_16 : Cond.classLink RX11 16 RX7 ∈ lw_ok := lw_i1 30 rfl rfl
theorem wN_X7 : Cond.instantiable RX7 12 ∈ lw_ok := lw_i1 31 rfl rfl
theorem wM_X11_18 : Cond.methodLink RX11 18 yX7_init ∈ lw_ok := lw_i1 32 rfl rfl
theorem wV_X7_init : Cond.instanceMethod yX7_init ∈ lw_ok := lw_i1 33 rfl rfl
theorem wK_X7_init : Cond.code yX7_init cX7_init 1 none ∈ lw_ok := lw_i1 34 rfl rfl
theorem wM_X7_3 : Cond.methodLink RX7 3 objectInit ∈ lw_ok := lw_i1 35 rfl rfl
theorem wF_X7_9 : Cond.fieldLink RX7 9 RX7 "way" "[I" ∈ lw_ok := lw_i1 36 rfl rfl
theorem wF_X5_35 : Cond.fieldLink RX5 35 RX7 "way" "[I" ∈ lw_ok := lw_i1 37 rfl rfl
theorem wF_X1_114 : Cond.fieldLink RX1 114 RX7 "way" "[I" ∈ lw_ok := lw_i1 38 rfl rfl
theorem wF_X3_140 : Cond.fieldLink RX3 140 RX7 "way" "[I" ∈ lw_ok := lw_i1 39 rfl rfl
theorem wF_X11_236 : Cond.fieldLink RX11 236 RX7 "way" "[I" ∈ lw_ok := lw_i1 40 rfl rfl
theorem wF_X8_251 : Cond.fieldLink RX8 251 RX7 "way" "[I" ∈ lw_ok := lw_i1 41 rfl rfl
theorem wF_X7_15 : Cond.fieldLink RX7 15 RX7 "marks" "[I" ∈ lw_ok := lw_i1 42 rfl rfl
theorem wF_X11_268 : Cond.fieldLink RX11 268 RX7 "marks" "[I" ∈ lw_ok := lw_i1 43 rfl rfl
theorem wF_X3_182 : Cond.fieldLink RX3 182 RX7 "marks" "[I" ∈ lw_ok := lw_i1 44 rfl rfl
theorem wF_X7_22 : Cond.fieldLink RX7 22 RX7 "there" "Z" ∈ lw_ok := lw_i1 45 rfl rfl
theorem wF_X8_203 : Cond.fieldLink RX8 203 RX7 "there" "Z" ∈ lw_ok := lw_i1 46 rfl rfl
theorem wF_X11_246 : Cond.fieldLink RX11 246 RX7 "there" "Z" ∈ lw_ok := lw_i1 47 rfl rfl
theorem wF_X3_166 : Cond.fieldLink RX3 166 RX7 "there" "Z" ∈ lw_ok := lw_i1 48 rfl rfl
theorem wF_X7_26 : Cond.fieldLink RX7 26 RX7 "prefix" "I" ∈ lw_ok := lw_i1 49 rfl rfl
theorem wF_X1_77 : Cond.fieldLink RX1 77 RX7 "prefix" "I" ∈ lw_ok := lw_i1 50 rfl rfl
theorem wF_X8_133 : Cond.fieldLink RX8 133 RX7 "prefix" "I" ∈ lw_ok := lw_i1 51 rfl rfl
theorem wF_X11_256 : Cond.fieldLink RX11 256 RX7 "prefix" "I" ∈ lw_ok := lw_i1 52 rfl rfl
theorem wF_X7_29 : Cond.fieldLink RX7 29 RX7 "wish" "I" ∈ lw_ok := lw_i1 53 rfl rfl
theorem wF_X0_48 : Cond.fieldLink RX0 48 RX7 "wish" "I" ∈ lw_ok := lw_i1 54 rfl rfl
theorem wF_X1_105 : Cond.fieldLink RX1 105 RX7 "wish" "I" ∈ lw_ok := lw_i1 55 rfl rfl
theorem wF_X11_230 : Cond.fieldLink RX11 230 RX7 "wish" "I" ∈ lw_ok := lw_i1 56 rfl rfl
theorem wF_X8_260 : Cond.fieldLink RX8 260 RX7 "wish" "I" ∈ lw_ok := lw_i1 57 rfl rfl
theorem wF_X7_32 : Cond.fieldLink RX7 32 RX7 "origin" "I" ∈ lw_ok := lw_i1 58 rfl rfl
theorem wF_X0_60 : Cond.fieldLink RX0 60 RX7 "origin" "I" ∈ lw_ok := lw_i1 59 rfl rfl
theorem wF_X1_111 : Cond.fieldLink RX1 111 RX7 "origin" "I" ∈ lw_ok := lw_i1 60 rfl rfl
theorem wF_X3_127 : Cond.fieldLink RX3 127 RX7 "origin" "I" ∈ lw_ok := lw_i1 61 rfl rfl
theorem wF_X11_259 : Cond.fieldLink RX11 259 RX7 "origin" "I" ∈ lw_ok := lw_i1 62 rfl rfl
theorem wF_X7_35 : Cond.fieldLink RX7 35 RX7 "cost" "I" ∈ lw_ok := lw_i1 63 rfl rfl
theorem wF_X0_67 : Cond.fieldLink RX0 67 RX7 "cost" "I" ∈ lw_ok := lw_i1 64 rfl rfl
theorem wF_X1_108 : Cond.fieldLink RX1 108 RX7 "cost" "I" ∈ lw_ok := lw_i1 65 rfl rfl
theorem wF_X3_134 : Cond.fieldLink RX3 134 RX7 "cost" "I" ∈ lw_ok := lw_i1 66 rfl rfl
theorem wF_X11_233 : Cond.fieldLink RX11 233 RX7 "cost" "I" ∈ lw_ok := lw_i1 67 rfl rfl
theorem wF_X5_30 : Cond.fieldLink RX5 30 RX7 "wayLength" "I" ∈ lw_ok := lw_i1 68 rfl rfl
theorem wF_X7_38 : Cond.fieldLink RX7 38 RX7 "wayLength" "I" ∈ lw_ok := lw_i1 69 rfl rfl
theorem wF_X0_57 : Cond.fieldLink RX0 57 RX7 "wayLength" "I" ∈ lw_ok := lw_i1 70 rfl rfl
theorem wF_X1_96 : Cond.fieldLink RX1 96 RX7 "wayLength" "I" ∈ lw_ok := lw_i1 71 rfl rfl
theorem wF_X3_147 : Cond.fieldLink RX3 147 RX7 "wayLength" "I" ∈ lw_ok := lw_i1 72 rfl rfl
theorem wF_X11_245 : Cond.fieldLink RX11 245 RX7 "wayLength" "I" ∈ lw_ok := lw_i1 73 rfl rfl
theorem wF_X8_246 : Cond.fieldLink RX8 246 RX7 "wayLength" "I" ∈ lw_ok := lw_i1 74 rfl rfl
theorem wF_X7_41 : Cond.fieldLink RX7 41 RX7 "markCount" "I" ∈ lw_ok := lw_i1 75 rfl rfl
theorem wF_X3_55 : Cond.fieldLink RX3 55 RX7 "markCount" "I" ∈ lw_ok := lw_i1 76 rfl rfl
theorem wF_X11_262 : Cond.fieldLink RX11 262 RX7 "markCount" "I" ∈ lw_ok := lw_i1 77 rfl rfl
theorem wF_X7_18 : Cond.fieldLink RX7 18 RX7 "when" "I" ∈ lw_ok := lw_i1 78 rfl rfl
theorem wF_X0_70 : Cond.fieldLink RX0 70 RX7 "when" "I" ∈ lw_ok := lw_i1 79 rfl rfl
theorem wF_X8_110 : Cond.fieldLink RX8 110 RX7 "when" "I" ∈ lw_ok := lw_i1 80 rfl rfl
theorem wF_X11_330 : Cond.fieldLink RX11 330 RX7 "when" "I" ∈ lw_ok := lw_i1 81 rfl rfl
theorem wF_X8_188 : Cond.fieldLink RX8 188 RX7 "tie" "I" ∈ lw_ok := lw_i1 82 rfl rfl
theorem wF_X0_45 : Cond.fieldLink RX0 45 RX7 "partner" "I" ∈ lw_ok := lw_i1 83 rfl rfl
theorem wF_X8_210 : Cond.fieldLink RX8 210 RX7 "partner" "I" ∈ lw_ok := lw_i1 84 rfl rfl
theorem wA_int : Cond.arrayClass (Jvm.ClassFile.FieldType.int) ∈ lw_ok := lw_i1 110 rfl rfl
theorem wC_X11_23 : Cond.classLink RX11 23 RX10 ∈ lw_ok := lw_i1 111 rfl rfl
theorem wN_X10 : Cond.instantiable RX10 19 ∈ lw_ok := lw_i1 112 rfl rfl
theorem wM_X11_25 : Cond.methodLink RX11 25 yX10_init ∈ lw_ok := lw_i1 113 rfl rfl
theorem wV_X10_init : Cond.instanceMethod yX10_init ∈ lw_ok := lw_i1 114 rfl rfl
theorem wK_X10_init : Cond.code yX10_init cX10_init 1 none ∈ lw_ok := lw_i1 115 rfl rfl
theorem wM_X10_3 : Cond.methodLink RX10 3 objectInit ∈ lw_ok := lw_i1 116 rfl rfl
theorem wC_X10_21 : Cond.classLink RX10 21 RX0 ∈ lw_ok := lw_i1 117 rfl rfl
theorem wC_X10_27 : Cond.classLink RX10 27 RX9 ∈ lw_ok := lw_i1 119 rfl rfl
theorem wF_X10_9 : Cond.fieldLink RX10 9 RX10 "address" "[I" ∈ lw_ok := lw_i1 121 rfl rfl
theorem wF_X2_49 : Cond.fieldLink RX2 49 RX10 "address" "[I" ∈ lw_ok := lw_i1 122 rfl rfl
theorem wF_X1_82 : Cond.fieldLink RX1 82 RX10 "address" "[I" ∈ lw_ok := lw_i1 123 rfl rfl
theorem wF_X11_351 : Cond.fieldLink RX11 351 RX10 "address" "[I" ∈ lw_ok := lw_i1 124 rfl rfl
theorem wF_X10_15 : Cond.fieldLink RX10 15 RX10 "length" "[I" ∈ lw_ok := lw_i1 125 rfl rfl
theorem wF_X2_57 : Cond.fieldLink RX2 57 RX10 "length" "[I" ∈ lw_ok := lw_i1 126 rfl rfl
theorem wF_X1_72 : Cond.fieldLink RX1 72 RX10 "length" "[I" ∈ lw_ok := lw_i1 127 rfl rfl
theorem wF_X11_185 : Cond.fieldLink RX11 185 RX10 "length" "[I" ∈ lw_ok := lw_i1 128 rfl rfl
theorem wF_X10_18 : Cond.fieldLink RX10 18 RX10 "mask" "[I" ∈ lw_ok := lw_i1 129 rfl rfl
theorem wF_X2_46 : Cond.fieldLink RX2 46 RX10 "mask" "[I" ∈ lw_ok := lw_i1 130 rfl rfl
theorem wF_X10_23 : Cond.fieldLink RX10 23 RX10 "domain" "[LDomainHouse$Domain;" ∈ lw_ok := lw_i1 131 rfl rfl
theorem wF_X2_35 : Cond.fieldLink RX2 35 RX10 "domain" "[LDomainHouse$Domain;" ∈ lw_ok := lw_i1 132 rfl rfl
theorem wF_X8_162 : Cond.fieldLink RX8 162 RX10 "domain" "[LDomainHouse$Domain;" ∈ lw_ok := lw_i1 133 rfl rfl
theorem wF_X11_283 : Cond.fieldLink RX11 283 RX10 "domain" "[LDomainHouse$Domain;" ∈ lw_ok := lw_i1 134 rfl rfl
theorem wF_X10_29 : Cond.fieldLink RX10 29 RX10 "tie" "[LDomainHouse$Tie;" ∈ lw_ok := lw_i1 135 rfl rfl
theorem wF_X2_64 : Cond.fieldLink RX2 64 RX10 "tie" "[LDomainHouse$Tie;" ∈ lw_ok := lw_i1 136 rfl rfl
theorem wF_X8_76 : Cond.fieldLink RX8 76 RX10 "tie" "[LDomainHouse$Tie;" ∈ lw_ok := lw_i1 137 rfl rfl
theorem wF_X11_122 : Cond.fieldLink RX11 122 RX10 "tie" "[LDomainHouse$Tie;" ∈ lw_ok := lw_i1 138 rfl rfl
theorem wF_X10_33 : Cond.fieldLink RX10 33 RX10 "ringRow" "[I" ∈ lw_ok := lw_i1 139 rfl rfl
theorem wF_X11_166 : Cond.fieldLink RX11 166 RX10 "ringRow" "[I" ∈ lw_ok := lw_i1 140 rfl rfl
theorem wF_X10_36 : Cond.fieldLink RX10 36 RX10 "stepsBack" "[I" ∈ lw_ok := lw_i1 141 rfl rfl
theorem wF_X10_39 : Cond.fieldLink RX10 39 RX10 "rightPrefix" "[I" ∈ lw_ok := lw_i1 142 rfl rfl
theorem wF_X10_42 : Cond.fieldLink RX10 42 RX10 "rightMost" "[I" ∈ lw_ok := lw_i1 143 rfl rfl
theorem wF_X10_45 : Cond.fieldLink RX10 45 RX10 "rightDomain" "[I" ∈ lw_ok := lw_i1 144 rfl rfl
theorem wF_X10_48 : Cond.fieldLink RX10 48 RX10 "rightFrom" "[I" ∈ lw_ok := lw_i1 145 rfl rfl
theorem wF_X10_51 : Cond.fieldLink RX10 51 RX10 "rightTo" "[I" ∈ lw_ok := lw_i1 146 rfl rfl
theorem wF_X10_54 : Cond.fieldLink RX10 54 RX10 "rightKnown" "[I" ∈ lw_ok := lw_i1 147 rfl rfl
theorem wF_X11_195 : Cond.fieldLink RX11 195 RX10 "rightKnown" "[I" ∈ lw_ok := lw_i1 148 rfl rfl
theorem wF_X10_57 : Cond.fieldLink RX10 57 RX10 "rightStruck" "[I" ∈ lw_ok := lw_i1 149 rfl rfl
theorem wF_X11_198 : Cond.fieldLink RX11 198 RX10 "rightStruck" "[I" ∈ lw_ok := lw_i1 150 rfl rfl
theorem wF_X2_42 : Cond.fieldLink RX2 42 RX10 "prefixes" "I" ∈ lw_ok := lw_i1 151 rfl rfl
theorem wF_X10_60 : Cond.fieldLink RX10 60 RX10 "prefixes" "I" ∈ lw_ok := lw_i1 152 rfl rfl
theorem wF_X11_92 : Cond.fieldLink RX11 92 RX10 "prefixes" "I" ∈ lw_ok := lw_i1 153 rfl rfl
theorem wF_X8_150 : Cond.fieldLink RX8 150 RX10 "prefixes" "I" ∈ lw_ok := lw_i1 154 rfl rfl
theorem wF_X10_68 : Cond.fieldLink RX10 68 RX10 "domains" "I" ∈ lw_ok := lw_i1 155 rfl rfl
theorem wF_X11_98 : Cond.fieldLink RX11 98 RX10 "domains" "I" ∈ lw_ok := lw_i1 156 rfl rfl
theorem wF_X8_147 : Cond.fieldLink RX8 147 RX10 "domains" "I" ∈ lw_ok := lw_i1 157 rfl rfl
theorem wF_X10_72 : Cond.fieldLink RX10 72 RX10 "ties" "I" ∈ lw_ok := lw_i1 158 rfl rfl
theorem wF_X11_112 : Cond.fieldLink RX11 112 RX10 "ties" "I" ∈ lw_ok := lw_i1 159 rfl rfl
theorem wF_X8_153 : Cond.fieldLink RX8 153 RX10 "ties" "I" ∈ lw_ok := lw_i1 160 rfl rfl
theorem wF_X10_118 : Cond.fieldLink RX10 118 RX10 "rights" "I" ∈ lw_ok := lw_i1 161 rfl rfl
theorem wF_X11_188 : Cond.fieldLink RX11 188 RX10 "rights" "I" ∈ lw_ok := lw_i1 162 rfl rfl
theorem wF_X1_117 : Cond.fieldLink RX1 117 RX10 "today" "I" ∈ lw_ok := lw_i1 163 rfl rfl
theorem wF_X11_176 : Cond.fieldLink RX11 176 RX10 "today" "I" ∈ lw_ok := lw_i1 164 rfl rfl
theorem wC_X11_30 : Cond.classLink RX11 30 RX1 ∈ lw_ok := lw_i1 204 rfl rfl
theorem wN_X1 : Cond.instantiable RX1 9 ∈ lw_ok := lw_i1 205 rfl rfl
theorem wM_X11_32 : Cond.methodLink RX11 32 yX1_init ∈ lw_ok := lw_i1 206 rfl rfl
theorem wV_X1_init : Cond.instanceMethod yX1_init ∈ lw_ok := lw_i1 207 rfl rfl
theorem wK_X1_init : Cond.code yX1_init cX1_init 2 none ∈ lw_ok := lw_i1 208 rfl rfl
theorem wM_X1_3 : Cond.methodLink RX1 3 objectInit ∈ lw_ok := lw_i1 209 rfl rfl
theorem wC_X1_15 : Cond.classLink RX1 15 RX5 ∈ lw_ok := lw_i1 210 rfl rfl
theorem wF_X1_9 : Cond.fieldLink RX1 9 RX1 "world" "LDomainHouse$World;" ∈ lw_ok := lw_i1 212 rfl rfl
theorem wF_X1_17 : Cond.fieldLink RX1 17 RX1 "texts" "[LDomainHouse$Policy;" ∈ lw_ok := lw_i1 213 rfl rfl
theorem wF_X1_25 : Cond.fieldLink RX1 25 RX1 "route" "LDomainHouse$Route;" ∈ lw_ok := lw_i1 214 rfl rfl
theorem wF_X1_35 : Cond.fieldLink RX1 35 RX1 "domain" "I" ∈ lw_ok := lw_i1 215 rfl rfl
theorem wF_X1_38 : Cond.fieldLink RX1 38 RX1 "partner" "I" ∈ lw_ok := lw_i1 216 rfl rfl
theorem wF_X1_44 : Cond.fieldLink RX1 44 RX1 "role" "I" ∈ lw_ok := lw_i1 217 rfl rfl
theorem wF_X1_47 : Cond.fieldLink RX1 47 RX1 "acts" "I" ∈ lw_ok := lw_i1 218 rfl rfl
theorem wF_X1_50 : Cond.fieldLink RX1 50 RX1 "ending" "I" ∈ lw_ok := lw_i1 219 rfl rfl
theorem wF_X1_21 : Cond.fieldLink RX1 21 RX1 "policies" "I" ∈ lw_ok := lw_i1 220 rfl rfl
theorem wF_X11_205 : Cond.fieldLink RX11 205 RX1 "policies" "I" ∈ lw_ok := lw_i1 221 rfl rfl
theorem wC_X11_39 : Cond.classLink RX11 39 RX6 ∈ lw_ok := lw_i2 1 rfl rfl
theorem wN_X6 : Cond.instantiable RX6 20 ∈ lw_ok := lw_i2 2 rfl rfl
theorem wM_X11_41 : Cond.methodLink RX11 41 yX6_init ∈ lw_ok := lw_i2 3 rfl rfl
theorem wV_X6_init : Cond.instanceMethod yX6_init ∈ lw_ok := lw_i2 4 rfl rfl
theorem wK_X6_init : Cond.code yX6_init cX6_init 1 none ∈ lw_ok := lw_i2 5 rfl rfl
theorem wM_X6_3 : Cond.methodLink RX6 3 objectInit ∈ lw_ok := lw_i2 6 rfl rfl
theorem wF_X6_9 : Cond.fieldLink RX6 9 RX6 "token" "[I" ∈ lw_ok := lw_i2 7 rfl rfl
theorem wF_X6_15 : Cond.fieldLink RX6 15 RX6 "value" "[I" ∈ lw_ok := lw_i2 8 rfl rfl
theorem wF_X6_18 : Cond.fieldLink RX6 18 RX6 "place" "[I" ∈ lw_ok := lw_i2 9 rfl rfl
theorem wF_X6_21 : Cond.fieldLink RX6 21 RX6 "code" "[I" ∈ lw_ok := lw_i2 10 rfl rfl
theorem wF_X6_24 : Cond.fieldLink RX6 24 RX6 "places" "[I" ∈ lw_ok := lw_i2 11 rfl rfl
theorem wF_X6_27 : Cond.fieldLink RX6 27 RX6 "next" "[J" ∈ lw_ok := lw_i2 12 rfl rfl
theorem wF_X6_31 : Cond.fieldLink RX6 31 RX6 "first" "[J" ∈ lw_ok := lw_i2 13 rfl rfl
theorem wF_X6_34 : Cond.fieldLink RX6 34 RX6 "last" "[J" ∈ lw_ok := lw_i2 14 rfl rfl
theorem wF_X6_83 : Cond.fieldLink RX6 83 RX6 "end" "I" ∈ lw_ok := lw_i2 15 rfl rfl
theorem wF_X6_63 : Cond.fieldLink RX6 63 RX6 "at" "I" ∈ lw_ok := lw_i2 16 rfl rfl
theorem wF_X6_44 : Cond.fieldLink RX6 44 RX6 "rows" "I" ∈ lw_ok := lw_i2 17 rfl rfl
theorem wF_X6_47 : Cond.fieldLink RX6 47 RX6 "codeSize" "I" ∈ lw_ok := lw_i2 18 rfl rfl
theorem wF_X6_50 : Cond.fieldLink RX6 50 RX6 "placeCount" "I" ∈ lw_ok := lw_i2 19 rfl rfl
theorem wF_X6_53 : Cond.fieldLink RX6 53 RX6 "ways" "I" ∈ lw_ok := lw_i2 20 rfl rfl
theorem wF_X6_56 : Cond.fieldLink RX6 56 RX6 "callable" "I" ∈ lw_ok := lw_i2 21 rfl rfl
theorem wF_X6_186 : Cond.fieldLink RX6 186 RX6 "partEmpty" "Z" ∈ lw_ok := lw_i2 22 rfl rfl
theorem wF_X6_179 : Cond.fieldLink RX6 179 RX6 "partFirst" "J" ∈ lw_ok := lw_i2 23 rfl rfl
theorem wF_X6_183 : Cond.fieldLink RX6 183 RX6 "partLast" "J" ∈ lw_ok := lw_i2 24 rfl rfl
theorem wF_X6_37 : Cond.fieldLink RX6 37 RX6 "fault" "I" ∈ lw_ok := lw_i2 25 rfl rfl
theorem wF_X11_212 : Cond.fieldLink RX11 212 RX6 "fault" "I" ∈ lw_ok := lw_i2 26 rfl rfl
theorem wF_X6_41 : Cond.fieldLink RX6 41 RX6 "faultPlace" "I" ∈ lw_ok := lw_i2 27 rfl rfl
theorem wF_X11_215 : Cond.fieldLink RX11 215 RX6 "faultPlace" "I" ∈ lw_ok := lw_i2 28 rfl rfl
theorem wA_long : Cond.arrayClass (Jvm.ClassFile.FieldType.long) ∈ lw_ok := lw_i2 70 rfl rfl
theorem wC_X11_46 : Cond.classLink RX11 46 RX8 ∈ lw_ok := lw_i2 71 rfl rfl
theorem wN_X8 : Cond.instantiable RX8 13 ∈ lw_ok := lw_i2 72 rfl rfl
theorem wM_X11_48 : Cond.methodLink RX11 48 yX8_init ∈ lw_ok := lw_i2 73 rfl rfl
theorem wV_X8_init : Cond.instanceMethod yX8_init ∈ lw_ok := lw_i2 74 rfl rfl
theorem wK_X8_init : Cond.code yX8_init cX8_init 4 none ∈ lw_ok := lw_i2 75 rfl rfl
theorem wM_X8_3 : Cond.methodLink RX8 3 objectInit ∈ lw_ok := lw_i2 76 rfl rfl
theorem wM_X8_26 : Cond.methodLink RX8 26 ⟨"java/util/Arrays", "fill", "([II)V"⟩ ∈ lw_ok := lw_i2 77 rfl rfl
theorem wC_X8_32 : Cond.classLink RX8 32 RX7 ∈ lw_ok := lw_i2 80 rfl rfl
theorem wM_X8_38 : Cond.methodLink RX8 38 yX7_init ∈ lw_ok := lw_i2 82 rfl rfl
theorem wF_X8_9 : Cond.fieldLink RX8 9 RX8 "world" "LDomainHouse$World;" ∈ lw_ok := lw_i2 83 rfl rfl
theorem wF_X8_15 : Cond.fieldLink RX8 15 RX8 "court" "LDomainHouse$Judge;" ∈ lw_ok := lw_i2 84 rfl rfl
theorem wF_X8_19 : Cond.fieldLink RX8 19 RX8 "queue" "[I" ∈ lw_ok := lw_i2 85 rfl rfl
theorem wF_X8_23 : Cond.fieldLink RX8 23 RX8 "momentOf" "[I" ∈ lw_ok := lw_i2 86 rfl rfl
theorem wF_X8_34 : Cond.fieldLink RX8 34 RX8 "candidate" "[LDomainHouse$Route;" ∈ lw_ok := lw_i2 87 rfl rfl
theorem wF_X8_39 : Cond.fieldLink RX8 39 RX8 "winner" "[I" ∈ lw_ok := lw_i2 88 rfl rfl
theorem wF_X8_42 : Cond.fieldLink RX8 42 RX8 "own" "LDomainHouse$Route;" ∈ lw_ok := lw_i2 89 rfl rfl
theorem wF_X8_46 : Cond.fieldLink RX8 46 RX8 "nothing" "LDomainHouse$Route;" ∈ lw_ok := lw_i2 90 rfl rfl
theorem wF_X8_49 : Cond.fieldLink RX8 49 RX8 "outgoing" "LDomainHouse$Route;" ∈ lw_ok := lw_i2 91 rfl rfl
theorem wF_X8_200 : Cond.fieldLink RX8 200 RX8 "candidates" "I" ∈ lw_ok := lw_i2 92 rfl rfl
theorem wF_X8_52 : Cond.fieldLink RX8 52 RX8 "queued" "I" ∈ lw_ok := lw_i2 93 rfl rfl
theorem wF_X11_426 : Cond.fieldLink RX11 426 RX8 "queued" "I" ∈ lw_ok := lw_i2 94 rfl rfl
theorem wF_X8_62 : Cond.fieldLink RX8 62 RX8 "clock" "I" ∈ lw_ok := lw_i2 95 rfl rfl
theorem wF_X11_303 : Cond.fieldLink RX11 303 RX8 "clock" "I" ∈ lw_ok := lw_i2 96 rfl rfl
theorem wF_X8_69 : Cond.fieldLink RX8 69 RX8 "done" "I" ∈ lw_ok := lw_i2 97 rfl rfl
theorem wF_X11_429 : Cond.fieldLink RX11 429 RX8 "done" "I" ∈ lw_ok := lw_i2 98 rfl rfl
theorem wC_X11_55 : Cond.classLink RX11 55 RX3 ∈ lw_ok := lw_i2 126 rfl rfl
theorem wN_X3 : Cond.instantiable RX3 17 ∈ lw_ok := lw_i2 127 rfl rfl
theorem wM_X11_57 : Cond.methodLink RX11 57 yX3_init ∈ lw_ok := lw_i2 128 rfl rfl
theorem wV_X3_init : Cond.instanceMethod yX3_init ∈ lw_ok := lw_i2 129 rfl rfl
theorem wK_X3_init : Cond.code yX3_init cX3_init 1 none ∈ lw_ok := lw_i2 130 rfl rfl
theorem wM_X3_3 : Cond.methodLink RX3 3 objectInit ∈ lw_ok := lw_i2 131 rfl rfl
theorem wG_X3_21 : Cond.constant RX3 21 (-99999999) ∈ lw_ok := lw_i2 132 rfl rfl
theorem wC_X3_25 : Cond.classLink RX3 25 RX7 ∈ lw_ok := lw_i2 133 rfl rfl
theorem wM_X3_27 : Cond.methodLink RX3 27 yX7_init ∈ lw_ok := lw_i2 134 rfl rfl
theorem wF_X3_11 : Cond.fieldLink RX3 11 RX3 "seen" "[I" ∈ lw_ok := lw_i2 135 rfl rfl
theorem wF_X3_15 : Cond.fieldLink RX3 15 RX3 "carried" "[I" ∈ lw_ok := lw_i2 136 rfl rfl
theorem wF_X3_18 : Cond.fieldLink RX3 18 RX3 "marks" "[I" ∈ lw_ok := lw_i2 137 rfl rfl
theorem wF_X3_22 : Cond.fieldLink RX3 22 RX3 "faultPlace" "[I" ∈ lw_ok := lw_i2 138 rfl rfl
theorem wF_X3_41 : Cond.fieldLink RX3 41 RX3 "octets" "[I" ∈ lw_ok := lw_i2 139 rfl rfl
theorem wF_X3_79 : Cond.fieldLink RX3 79 RX3 "carriedCount" "I" ∈ lw_ok := lw_i2 140 rfl rfl
theorem wF_X3_59 : Cond.fieldLink RX3 59 RX3 "markCount" "I" ∈ lw_ok := lw_i2 141 rfl rfl
theorem wF_X3_82 : Cond.fieldLink RX3 82 RX3 "hasOrigin" "Z" ∈ lw_ok := lw_i2 142 rfl rfl
theorem wF_X3_85 : Cond.fieldLink RX3 85 RX3 "hasWay" "Z" ∈ lw_ok := lw_i2 143 rfl rfl
theorem wF_X3_28 : Cond.fieldLink RX3 28 RX3 "route" "LDomainHouse$Route;" ∈ lw_ok := lw_i2 144 rfl rfl
theorem wF_X8_130 : Cond.fieldLink RX8 130 RX3 "route" "LDomainHouse$Route;" ∈ lw_ok := lw_i2 145 rfl rfl
theorem wF_X3_32 : Cond.fieldLink RX3 32 RX3 "address" "[I" ∈ lw_ok := lw_i2 146 rfl rfl
theorem wF_X8_121 : Cond.fieldLink RX8 121 RX3 "address" "[I" ∈ lw_ok := lw_i2 147 rfl rfl
theorem wF_X3_35 : Cond.fieldLink RX3 35 RX3 "length" "[I" ∈ lw_ok := lw_i2 148 rfl rfl
theorem wF_X8_124 : Cond.fieldLink RX8 124 RX3 "length" "[I" ∈ lw_ok := lw_i2 149 rfl rfl
theorem wF_X3_38 : Cond.fieldLink RX3 38 RX3 "written" "[I" ∈ lw_ok := lw_i2 150 rfl rfl
theorem wF_X11_361 : Cond.fieldLink RX11 361 RX3 "written" "[I" ∈ lw_ok := lw_i2 151 rfl rfl
theorem wF_X3_63 : Cond.fieldLink RX3 63 RX3 "withdrawn" "I" ∈ lw_ok := lw_i2 152 rfl rfl
theorem wF_X8_113 : Cond.fieldLink RX8 113 RX3 "withdrawn" "I" ∈ lw_ok := lw_i2 153 rfl rfl
theorem wF_X3_66 : Cond.fieldLink RX3 66 RX3 "announced" "I" ∈ lw_ok := lw_i2 154 rfl rfl
theorem wF_X8_118 : Cond.fieldLink RX8 118 RX3 "announced" "I" ∈ lw_ok := lw_i2 155 rfl rfl
theorem wF_X3_163 : Cond.fieldLink RX3 163 RX3 "writtenSize" "I" ∈ lw_ok := lw_i2 156 rfl rfl
theorem wF_X11_358 : Cond.fieldLink RX11 358 RX3 "writtenSize" "I" ∈ lw_ok := lw_i2 157 rfl rfl
theorem wF_X3_51 : Cond.fieldLink RX3 51 RX3 "taken" "Z" ∈ lw_ok := lw_i2 158 rfl rfl
theorem wF_X11_344 : Cond.fieldLink RX11 344 RX3 "taken" "Z" ∈ lw_ok := lw_i2 159 rfl rfl
theorem wC_X11_62 : Cond.classLink RX11 62 RX2 ∈ lw_ok := lw_i2 195 rfl rfl
theorem wN_X2 : Cond.instantiable RX2 11 ∈ lw_ok := lw_i2 196 rfl rfl
theorem wM_X11_64 : Cond.methodLink RX11 64 yX2_init ∈ lw_ok := lw_i2 197 rfl rfl
theorem wV_X2_init : Cond.instanceMethod yX2_init ∈ lw_ok := lw_i2 198 rfl rfl
theorem wK_X2_init : Cond.code yX2_init cX2_init 2 none ∈ lw_ok := lw_i2 199 rfl rfl
theorem wM_X2_3 : Cond.methodLink RX2 3 objectInit ∈ lw_ok := lw_i2 200 rfl rfl
theorem wF_X2_9 : Cond.fieldLink RX2 9 RX2 "world" "LDomainHouse$World;" ∈ lw_ok := lw_i2 201 rfl rfl
theorem wF_X2_15 : Cond.fieldLink RX2 15 RX2 "stops" "[I" ∈ lw_ok := lw_i2 202 rfl rfl
theorem wF_X2_22 : Cond.fieldLink RX2 22 RX2 "demandFrom" "[I" ∈ lw_ok := lw_i2 203 rfl rfl
theorem wF_X2_25 : Cond.fieldLink RX2 25 RX2 "demandAddress" "[I" ∈ lw_ok := lw_i2 204 rfl rfl
theorem wF_X2_28 : Cond.fieldLink RX2 28 RX2 "demandUnits" "[I" ∈ lw_ok := lw_i2 205 rfl rfl
theorem wF_X2_31 : Cond.fieldLink RX2 31 RX2 "border" "[J" ∈ lw_ok := lw_i2 206 rfl rfl
theorem wF_X2_77 : Cond.fieldLink RX2 77 RX2 "stopCount" "I" ∈ lw_ok := lw_i2 207 rfl rfl
theorem wF_X2_98 : Cond.fieldLink RX2 98 RX2 "entries" "I" ∈ lw_ok := lw_i2 208 rfl rfl
theorem wF_X2_19 : Cond.fieldLink RX2 19 RX2 "ledTo" "[I" ∈ lw_ok := lw_i2 209 rfl rfl
theorem wF_X11_370 : Cond.fieldLink RX11 370 RX2 "ledTo" "[I" ∈ lw_ok := lw_i2 210 rfl rfl
theorem wF_X2_92 : Cond.fieldLink RX2 92 RX2 "ledCount" "I" ∈ lw_ok := lw_i2 211 rfl rfl
theorem wF_X11_367 : Cond.fieldLink RX11 367 RX2 "ledCount" "I" ∈ lw_ok := lw_i2 212 rfl rfl
theorem wF_X2_95 : Cond.fieldLink RX2 95 RX2 "demands" "I" ∈ lw_ok := lw_i2 213 rfl rfl
theorem wF_X11_373 : Cond.fieldLink RX11 373 RX2 "demands" "I" ∈ lw_ok := lw_i2 214 rfl rfl
theorem wC_X11_69 : Cond.classLink RX11 69 RX4 ∈ lw_ok := lw_i2 238 rfl rfl
theorem wN_X4 : Cond.instantiable RX4 15 ∈ lw_ok := lw_i2 239 rfl rfl
theorem wM_X11_71 : Cond.methodLink RX11 71 yX4_init ∈ lw_ok := lw_i3 0 rfl rfl
theorem wV_X4_init : Cond.instanceMethod yX4_init ∈ lw_ok := lw_i3 1 rfl rfl
theorem wK_X4_init : Cond.code yX4_init cX4_init 1 none ∈ lw_ok := lw_i3 2 rfl rfl
theorem wM_X4_3 : Cond.methodLink RX4 3 objectInit ∈ lw_ok := lw_i3 3 rfl rfl
theorem wF_X4_15 : Cond.fieldLink RX4 15 RX4 "ways" "[I" ∈ lw_ok := lw_i3 4 rfl rfl
theorem wF_X4_18 : Cond.fieldLink RX4 18 RX4 "lengths" "[I" ∈ lw_ok := lw_i3 5 rfl rfl
theorem wF_X4_21 : Cond.fieldLink RX4 21 RX4 "neededPlace" "[I" ∈ lw_ok := lw_i3 6 rfl rfl
theorem wF_X4_24 : Cond.fieldLink RX4 24 RX4 "neededWay" "[I" ∈ lw_ok := lw_i3 7 rfl rfl
theorem wF_X4_27 : Cond.fieldLink RX4 27 RX4 "weight" "[I" ∈ lw_ok := lw_i3 8 rfl rfl
theorem wF_X4_30 : Cond.fieldLink RX4 30 RX4 "has" "[I" ∈ lw_ok := lw_i3 9 rfl rfl
theorem wF_X4_33 : Cond.fieldLink RX4 33 RX4 "queue" "[I" ∈ lw_ok := lw_i3 10 rfl rfl
theorem wF_X4_36 : Cond.fieldLink RX4 36 RX4 "restState" "[I" ∈ lw_ok := lw_i3 11 rfl rfl
theorem wF_X4_39 : Cond.fieldLink RX4 39 RX4 "flags" "[B" ∈ lw_ok := lw_i3 12 rfl rfl
theorem wF_X4_59 : Cond.fieldLink RX4 59 RX4 "states" "I" ∈ lw_ok := lw_i3 13 rfl rfl
theorem wF_X4_52 : Cond.fieldLink RX4 52 RX4 "restsKnown" "Z" ∈ lw_ok := lw_i3 14 rfl rfl
theorem wF_X4_56 : Cond.fieldLink RX4 56 RX4 "explored" "Z" ∈ lw_ok := lw_i3 15 rfl rfl
theorem wF_X4_11 : Cond.fieldLink RX4 11 RX4 "wishes" "[I" ∈ lw_ok := lw_i3 16 rfl rfl
theorem wF_X11_405 : Cond.fieldLink RX11 405 RX4 "wishes" "[I" ∈ lw_ok := lw_i3 17 rfl rfl
theorem wF_X4_43 : Cond.fieldLink RX4 43 RX4 "found" "[I" ∈ lw_ok := lw_i3 18 rfl rfl
theorem wF_X11_423 : Cond.fieldLink RX11 423 RX4 "found" "[I" ∈ lw_ok := lw_i3 19 rfl rfl
theorem wF_X4_82 : Cond.fieldLink RX4 82 RX4 "restCount" "I" ∈ lw_ok := lw_i3 20 rfl rfl
theorem wF_X11_414 : Cond.fieldLink RX11 414 RX4 "restCount" "I" ∈ lw_ok := lw_i3 21 rfl rfl
theorem wA_byte : Cond.arrayClass (Jvm.ClassFile.FieldType.byte) ∈ lw_ok := lw_i3 53 rfl rfl
theorem wF_X11_9 : Cond.fieldLink RX11 9 RX11 "tape" "[I" ∈ lw_ok := lw_i3 54 rfl rfl
theorem wF_X11_13 : Cond.fieldLink RX11 13 RX11 "wayInHand" "[I" ∈ lw_ok := lw_i3 55 rfl rfl
theorem wF_X11_19 : Cond.fieldLink RX11 19 RX11 "routeInHand" "LDomainHouse$Route;" ∈ lw_ok := lw_i3 56 rfl rfl
theorem wF_X11_26 : Cond.fieldLink RX11 26 RX11 "world" "LDomainHouse$World;" ∈ lw_ok := lw_i3 57 rfl rfl
theorem wF_X11_35 : Cond.fieldLink RX11 35 RX11 "court" "LDomainHouse$Judge;" ∈ lw_ok := lw_i3 58 rfl rfl
theorem wF_X11_42 : Cond.fieldLink RX11 42 RX11 "reader" "LDomainHouse$Reader;" ∈ lw_ok := lw_i3 59 rfl rfl
theorem wF_X11_51 : Cond.fieldLink RX11 51 RX11 "talk" "LDomainHouse$Talk;" ∈ lw_ok := lw_i3 60 rfl rfl
theorem wF_X11_58 : Cond.fieldLink RX11 58 RX11 "mail" "LDomainHouse$Message;" ∈ lw_ok := lw_i3 61 rfl rfl
theorem wF_X11_65 : Cond.fieldLink RX11 65 RX11 "letters" "LDomainHouse$Letters;" ∈ lw_ok := lw_i3 62 rfl rfl
theorem wF_X11_72 : Cond.fieldLink RX11 72 RX11 "net" "LDomainHouse$Net;" ∈ lw_ok := lw_i3 63 rfl rfl
theorem wF_X11_76 : Cond.fieldLink RX11 76 RX11 "tapeSize" "I" ∈ lw_ok := lw_i3 64 rfl rfl
theorem wF_X11_169 : Cond.fieldLink RX11 169 RX11 "wayLength" "I" ∈ lw_ok := lw_i3 65 rfl rfl
theorem wM_DomainHouseLaw_13 : Cond.methodLink "DomainHouseLaw" 13 yX11_feed ∈ lw_ok := lw_i3 91 rfl rfl
theorem wV_X11_feed : Cond.instanceMethod yX11_feed ∈ lw_ok := lw_i3 92 rfl rfl
theorem wL_X11_feed : Cond.selects RX11 yX11_feed yX11_feed ∈ lw_ok := lw_i3 93 rfl rfl
theorem wK_X11_feed : Cond.code yX11_feed cX11_feed 6 (some .int) ∈ lw_ok := lw_i3 94 rfl rfl
theorem wM_X11_80 : Cond.methodLink RX11 80 yX11_feedNumber ∈ lw_ok := lw_i3 95 rfl rfl
theorem wV_X11_feedNumber : Cond.instanceMethod yX11_feedNumber ∈ lw_ok := lw_i3 97 rfl rfl
theorem wK_X11_feedNumber : Cond.code yX11_feedNumber cX11_feedNumber 3 none ∈ lw_ok := lw_i3 98 rfl rfl
theorem wM_DomainHouseLaw_18 : Cond.methodLink "DomainHouseLaw" 18 yX11_cut ∈ lw_ok := lw_i3 99 rfl rfl
theorem wV_X11_cut : Cond.instanceMethod yX11_cut ∈ lw_ok := lw_i3 100 rfl rfl
theorem wL_X11_cut : Cond.selects RX11 yX11_cut yX11_cut ∈ lw_ok := lw_i3 101 rfl rfl
theorem wK_X11_cut : Cond.code yX11_cut cX11_cut 3 (some .int) ∈ lw_ok := lw_i3 102 rfl rfl
theorem wM_DomainHouseLaw_23 : Cond.methodLink "DomainHouseLaw" 23 yX11_prefix ∈ lw_ok := lw_i3 103 rfl rfl
theorem wV_X11_prefix : Cond.instanceMethod yX11_prefix ∈ lw_ok := lw_i3 104 rfl rfl
theorem wL_X11_prefix : Cond.selects RX11 yX11_prefix yX11_prefix ∈ lw_ok := lw_i3 105 rfl rfl
theorem wK_X11_prefix : Cond.code yX11_prefix cX11_prefix 3 (some .int) ∈ lw_ok := lw_i3 106 rfl rfl
theorem wM_X11_84 : Cond.methodLink RX11 84 yX10_maskOf ∈ lw_ok := lw_i3 107 rfl rfl
theorem wS_X10_maskOf : Cond.static yX10_maskOf ∈ lw_ok := lw_i3 108 rfl rfl
theorem wK_X10_maskOf : Cond.code yX10_maskOf cX10_maskOf 1 (some .int) ∈ lw_ok := lw_i3 109 rfl rfl
theorem wM_X11_88 : Cond.methodLink RX11 88 yX10_findPrefix ∈ lw_ok := lw_i3 110 rfl rfl
theorem wV_X10_findPrefix : Cond.instanceMethod yX10_findPrefix ∈ lw_ok := lw_i3 111 rfl rfl
theorem wL_X10_findPrefix : Cond.selects RX10 yX10_findPrefix yX10_findPrefix ∈ lw_ok := lw_i3 112 rfl rfl
theorem wK_X10_findPrefix : Cond.code yX10_findPrefix cX10_findPrefix 4 (some .int) ∈ lw_ok := lw_i3 113 rfl rfl
theorem wM_X11_95 : Cond.methodLink RX11 95 yX10_addPrefix ∈ lw_ok := lw_i3 114 rfl rfl
theorem wV_X10_addPrefix : Cond.instanceMethod yX10_addPrefix ∈ lw_ok := lw_i3 115 rfl rfl
theorem wL_X10_addPrefix : Cond.selects RX10 yX10_addPrefix yX10_addPrefix ∈ lw_ok := lw_i3 116 rfl rfl
theorem wK_X10_addPrefix : Cond.code yX10_addPrefix cX10_addPrefix 3 (some .int) ∈ lw_ok := lw_i3 117 rfl rfl
theorem wM_X10_64 : Cond.methodLink RX10 64 yX10_maskOf ∈ lw_ok := lw_i3 118 rfl rfl
theorem wM_DomainHouseLaw_28 : Cond.methodLink "DomainHouseLaw" 28 yX11_domain ∈ lw_ok := lw_i3 119 rfl rfl
theorem wV_X11_domain : Cond.instanceMethod yX11_domain ∈ lw_ok := lw_i3 120 rfl rfl
theorem wL_X11_domain : Cond.selects RX11 yX11_domain yX11_domain ∈ lw_ok := lw_i3 121 rfl rfl
theorem wK_X11_domain : Cond.code yX11_domain cX11_domain 1 (some .int) ∈ lw_ok := lw_i3 122 rfl rfl
theorem wM_X11_101 : Cond.methodLink RX11 101 yX10_addDomain ∈ lw_ok := lw_i3 123 rfl rfl
theorem wV_X10_addDomain : Cond.instanceMethod yX10_addDomain ∈ lw_ok := lw_i3 124 rfl rfl
theorem wL_X10_addDomain : Cond.selects RX10 yX10_addDomain yX10_addDomain ∈ lw_ok := lw_i3 125 rfl rfl
theorem wK_X10_addDomain : Cond.code yX10_addDomain cX10_addDomain 1 (some .int) ∈ lw_ok := lw_i3 126 rfl rfl
theorem wN_X0 : Cond.instantiable RX0 6 ∈ lw_ok := lw_i3 127 rfl rfl
theorem wM_X10_71 : Cond.methodLink RX10 71 yX0_init ∈ lw_ok := lw_i3 128 rfl rfl
theorem wV_X0_init : Cond.instanceMethod yX0_init ∈ lw_ok := lw_i3 129 rfl rfl
theorem wK_X0_init : Cond.code yX0_init cX0_init 2 none ∈ lw_ok := lw_i3 130 rfl rfl
theorem wM_X0_3 : Cond.methodLink RX0 3 objectInit ∈ lw_ok := lw_i3 131 rfl rfl
theorem wM_X0_15 : Cond.methodLink RX0 15 yX0_goBy ∈ lw_ok := lw_i3 132 rfl rfl
theorem wV_X0_goBy : Cond.instanceMethod yX0_goBy ∈ lw_ok := lw_i3 133 rfl rfl
theorem wL_X0_goBy : Cond.selects RX0 yX0_goBy yX0_goBy ∈ lw_ok := lw_i3 134 rfl rfl
theorem wK_X0_goBy : Cond.code yX0_goBy cX0_goBy 5 none ∈ lw_ok := lw_i3 135 rfl rfl
theorem wC_X0_25 : Cond.classLink RX0 25 RX7 ∈ lw_ok := lw_i3 136 rfl rfl
theorem wG_X0_31 : Cond.constant RX0 31 (-99999999) ∈ lw_ok := lw_i3 137 rfl rfl
theorem wM_X0_32 : Cond.methodLink RX0 32 yX7_init ∈ lw_ok := lw_i3 138 rfl rfl
theorem wF_X0_9 : Cond.fieldLink RX0 9 RX0 "steps" "[I" ∈ lw_ok := lw_i3 139 rfl rfl
theorem wF_X0_19 : Cond.fieldLink RX0 19 RX0 "begun" "[I" ∈ lw_ok := lw_i3 140 rfl rfl
theorem wF_X8_167 : Cond.fieldLink RX8 167 RX0 "begun" "[I" ∈ lw_ok := lw_i3 141 rfl rfl
theorem wF_X11_293 : Cond.fieldLink RX11 293 RX0 "begun" "[I" ∈ lw_ok := lw_i3 142 rfl rfl
theorem wF_X0_22 : Cond.fieldLink RX0 22 RX0 "pickedTie" "[I" ∈ lw_ok := lw_i3 143 rfl rfl
theorem wF_X2_52 : Cond.fieldLink RX2 52 RX0 "pickedTie" "[I" ∈ lw_ok := lw_i3 144 rfl rfl
theorem wF_X8_190 : Cond.fieldLink RX8 190 RX0 "pickedTie" "[I" ∈ lw_ok := lw_i3 145 rfl rfl
theorem wF_X11_310 : Cond.fieldLink RX11 310 RX0 "pickedTie" "[I" ∈ lw_ok := lw_i3 146 rfl rfl
theorem wF_X0_27 : Cond.fieldLink RX0 27 RX0 "picked" "[LDomainHouse$Route;" ∈ lw_ok := lw_i3 147 rfl rfl
theorem wF_X8_193 : Cond.fieldLink RX8 193 RX0 "picked" "[LDomainHouse$Route;" ∈ lw_ok := lw_i3 148 rfl rfl
theorem wF_X11_313 : Cond.fieldLink RX11 313 RX0 "picked" "[LDomainHouse$Route;" ∈ lw_ok := lw_i3 149 rfl rfl
theorem wF_X0_37 : Cond.fieldLink RX0 37 RX0 "stepCount" "I" ∈ lw_ok := lw_i3 150 rfl rfl
theorem wF_X0_33 : Cond.fieldLink RX0 33 RX0 "grouped" "Z" ∈ lw_ok := lw_i3 151 rfl rfl
theorem wF_X8_178 : Cond.fieldLink RX8 178 RX0 "grouped" "Z" ∈ lw_ok := lw_i3 152 rfl rfl
theorem wM_DomainHouseLaw_33 : Cond.methodLink "DomainHouseLaw" 33 yX11_tie ∈ lw_ok := lw_i3 166 rfl rfl
theorem wV_X11_tie : Cond.instanceMethod yX11_tie ∈ lw_ok := lw_i3 167 rfl rfl
theorem wL_X11_tie : Cond.selects RX11 yX11_tie yX11_tie ∈ lw_ok := lw_i3 168 rfl rfl
theorem wK_X11_tie : Cond.code yX11_tie cX11_tie 4 (some .int) ∈ lw_ok := lw_i3 169 rfl rfl
theorem wM_X11_105 : Cond.methodLink RX11 105 yX11_isDomain ∈ lw_ok := lw_i3 170 rfl rfl
theorem wV_X11_isDomain : Cond.instanceMethod yX11_isDomain ∈ lw_ok := lw_i3 172 rfl rfl
theorem wK_X11_isDomain : Cond.code yX11_isDomain cX11_isDomain 2 (some .boolean) ∈ lw_ok := lw_i3 173 rfl rfl
theorem wM_X11_109 : Cond.methodLink RX11 109 yX10_tieBetween ∈ lw_ok := lw_i3 174 rfl rfl
theorem wV_X10_tieBetween : Cond.instanceMethod yX10_tieBetween ∈ lw_ok := lw_i3 175 rfl rfl
theorem wL_X10_tieBetween : Cond.selects RX10 yX10_tieBetween yX10_tieBetween ∈ lw_ok := lw_i3 176 rfl rfl
theorem wK_X10_tieBetween : Cond.code yX10_tieBetween cX10_tieBetween 5 (some .int) ∈ lw_ok := lw_i3 177 rfl rfl
theorem wM_X11_115 : Cond.methodLink RX11 115 yX10_addTie ∈ lw_ok := lw_i3 178 rfl rfl
theorem wV_X10_addTie : Cond.instanceMethod yX10_addTie ∈ lw_ok := lw_i3 179 rfl rfl
theorem wL_X10_addTie : Cond.selects RX10 yX10_addTie yX10_addTie ∈ lw_ok := lw_i3 180 rfl rfl
theorem wK_X10_addTie : Cond.code yX10_addTie cX10_addTie 4 (some .int) ∈ lw_ok := lw_i3 181 rfl rfl
theorem wN_X9 : Cond.instantiable RX9 9 ∈ lw_ok := lw_i3 182 rfl rfl
theorem wM_X10_75 : Cond.methodLink RX10 75 yX9_init ∈ lw_ok := lw_i3 183 rfl rfl
theorem wV_X9_init : Cond.instanceMethod yX9_init ∈ lw_ok := lw_i3 184 rfl rfl
theorem wK_X9_init : Cond.code yX9_init cX9_init 5 none ∈ lw_ok := lw_i3 185 rfl rfl
theorem wM_X9_3 : Cond.methodLink RX9 3 objectInit ∈ lw_ok := lw_i3 186 rfl rfl
theorem wG_X9_28 : Cond.constant RX9 28 (-99999999) ∈ lw_ok := lw_i3 187 rfl rfl
theorem wC_X9_33 : Cond.classLink RX9 33 RX7 ∈ lw_ok := lw_i3 188 rfl rfl
theorem wM_X9_42 : Cond.methodLink RX9 42 yX7_init ∈ lw_ok := lw_i3 189 rfl rfl
theorem wF_X9_9 : Cond.fieldLink RX9 9 RX9 "a" "I" ∈ lw_ok := lw_i3 190 rfl rfl
theorem wF_X10_78 : Cond.fieldLink RX10 78 RX9 "a" "I" ∈ lw_ok := lw_i3 191 rfl rfl
theorem wF_X11_145 : Cond.fieldLink RX11 145 RX9 "a" "I" ∈ lw_ok := lw_i3 192 rfl rfl
theorem wF_X9_15 : Cond.fieldLink RX9 15 RX9 "b" "I" ∈ lw_ok := lw_i3 193 rfl rfl
theorem wF_X10_81 : Cond.fieldLink RX10 81 RX9 "b" "I" ∈ lw_ok := lw_i3 194 rfl rfl
theorem wF_X11_151 : Cond.fieldLink RX11 151 RX9 "b" "I" ∈ lw_ok := lw_i3 195 rfl rfl
theorem wF_X9_18 : Cond.fieldLink RX9 18 RX9 "kind" "I" ∈ lw_ok := lw_i3 196 rfl rfl
theorem wF_X10_84 : Cond.fieldLink RX10 84 RX9 "kind" "I" ∈ lw_ok := lw_i3 197 rfl rfl
theorem wF_X9_29 : Cond.fieldLink RX9 29 RX9 "policy" "[I" ∈ lw_ok := lw_i3 198 rfl rfl
theorem wF_X8_213 : Cond.fieldLink RX8 213 RX9 "policy" "[I" ∈ lw_ok := lw_i3 199 rfl rfl
theorem wF_X11_274 : Cond.fieldLink RX11 274 RX9 "policy" "[I" ∈ lw_ok := lw_i3 200 rfl rfl
theorem wF_X9_35 : Cond.fieldLink RX9 35 RX9 "heard" "[LDomainHouse$Route;" ∈ lw_ok := lw_i3 201 rfl rfl
theorem wF_X8_96 : Cond.fieldLink RX8 96 RX9 "heard" "[LDomainHouse$Route;" ∈ lw_ok := lw_i3 202 rfl rfl
theorem wF_X11_324 : Cond.fieldLink RX11 324 RX9 "heard" "[LDomainHouse$Route;" ∈ lw_ok := lw_i3 203 rfl rfl
theorem wF_X9_39 : Cond.fieldLink RX9 39 RX9 "said" "[LDomainHouse$Route;" ∈ lw_ok := lw_i3 204 rfl rfl
theorem wF_X8_103 : Cond.fieldLink RX8 103 RX9 "said" "[LDomainHouse$Route;" ∈ lw_ok := lw_i3 205 rfl rfl
theorem wF_X11_327 : Cond.fieldLink RX11 327 RX9 "said" "[LDomainHouse$Route;" ∈ lw_ok := lw_i3 206 rfl rfl
theorem wF_X9_21 : Cond.fieldLink RX9 21 RX9 "up" "Z" ∈ lw_ok := lw_i3 207 rfl rfl
theorem wF_X8_136 : Cond.fieldLink RX8 136 RX9 "up" "Z" ∈ lw_ok := lw_i3 208 rfl rfl
theorem wF_X11_134 : Cond.fieldLink RX11 134 RX9 "up" "Z" ∈ lw_ok := lw_i3 209 rfl rfl
theorem wF_X9_25 : Cond.fieldLink RX9 25 RX9 "delay" "I" ∈ lw_ok := lw_i3 210 rfl rfl
theorem wF_X11_126 : Cond.fieldLink RX11 126 RX9 "delay" "I" ∈ lw_ok := lw_i3 211 rfl rfl
theorem wF_X8_269 : Cond.fieldLink RX8 269 RX9 "delay" "I" ∈ lw_ok := lw_i3 212 rfl rfl
theorem wF_X11_131 : Cond.fieldLink RX11 131 RX9 "gap" "I" ∈ lw_ok := lw_i3 213 rfl rfl
theorem wF_X8_263 : Cond.fieldLink RX8 263 RX9 "gap" "I" ∈ lw_ok := lw_i3 214 rfl rfl
theorem wM_DomainHouseLaw_38 : Cond.methodLink "DomainHouseLaw" 38 yX11_pace ∈ lw_ok := lw_i3 234 rfl rfl
theorem wV_X11_pace : Cond.instanceMethod yX11_pace ∈ lw_ok := lw_i3 235 rfl rfl
theorem wL_X11_pace : Cond.selects RX11 yX11_pace yX11_pace ∈ lw_ok := lw_i3 236 rfl rfl
theorem wK_X11_pace : Cond.code yX11_pace cX11_pace 4 (some .int) ∈ lw_ok := lw_i3 237 rfl rfl
theorem wM_X11_119 : Cond.methodLink RX11 119 yX11_isTie ∈ lw_ok := lw_i3 238 rfl rfl
theorem wV_X11_isTie : Cond.instanceMethod yX11_isTie ∈ lw_ok := lw_i4 0 rfl rfl
theorem wK_X11_isTie : Cond.code yX11_isTie cX11_isTie 2 (some .boolean) ∈ lw_ok := lw_i4 1 rfl rfl
theorem wM_DomainHouseLaw_42 : Cond.methodLink "DomainHouseLaw" 42 yX11_raise ∈ lw_ok := lw_i4 2 rfl rfl
theorem wV_X11_raise : Cond.instanceMethod yX11_raise ∈ lw_ok := lw_i4 3 rfl rfl
theorem wL_X11_raise : Cond.selects RX11 yX11_raise yX11_raise ∈ lw_ok := lw_i4 4 rfl rfl
theorem wK_X11_raise : Cond.code yX11_raise cX11_raise 4 (some .int) ∈ lw_ok := lw_i4 5 rfl rfl
theorem wM_X11_138 : Cond.methodLink RX11 138 yX8_sayAll ∈ lw_ok := lw_i4 6 rfl rfl
theorem wV_X8_sayAll : Cond.instanceMethod yX8_sayAll ∈ lw_ok := lw_i4 7 rfl rfl
theorem wL_X8_sayAll : Cond.selects RX8 yX8_sayAll yX8_sayAll ∈ lw_ok := lw_i4 8 rfl rfl
theorem wK_X8_sayAll : Cond.code yX8_sayAll cX8_sayAll 4 none ∈ lw_ok := lw_i4 9 rfl rfl
theorem wM_X8_72 : Cond.methodLink RX8 72 yX8_say ∈ lw_ok := lw_i4 10 rfl rfl
theorem wV_X8_say : Cond.instanceMethod yX8_say ∈ lw_ok := lw_i4 12 rfl rfl
theorem wK_X8_say : Cond.code yX8_say cX8_say 7 none ∈ lw_ok := lw_i4 13 rfl rfl
theorem wM_X8_256 : Cond.methodLink RX8 256 yX8_compose ∈ lw_ok := lw_i4 14 rfl rfl
theorem wV_X8_compose : Cond.instanceMethod yX8_compose ∈ lw_ok := lw_i4 16 rfl rfl
theorem wK_X8_compose : Cond.code yX8_compose cX8_compose 7 none ∈ lw_ok := lw_i4 17 rfl rfl
theorem wM_X8_86 : Cond.methodLink RX8 86 yX9_end ∈ lw_ok := lw_i4 18 rfl rfl
theorem wV_X9_end : Cond.instanceMethod yX9_end ∈ lw_ok := lw_i4 19 rfl rfl
theorem wL_X9_end : Cond.selects RX9 yX9_end yX9_end ∈ lw_ok := lw_i4 20 rfl rfl
theorem wK_X9_end : Cond.code yX9_end cX9_end 2 (some .int) ∈ lw_ok := lw_i4 21 rfl rfl
theorem wM_X8_106 : Cond.methodLink RX8 106 yX7_become ∈ lw_ok := lw_i4 22 rfl rfl
theorem wV_X7_become : Cond.instanceMethod yX7_become ∈ lw_ok := lw_i4 23 rfl rfl
theorem wL_X7_become : Cond.selects RX7 yX7_become yX7_become ∈ lw_ok := lw_i4 24 rfl rfl
theorem wK_X7_become : Cond.code yX7_become cX7_become 2 none ∈ lw_ok := lw_i4 25 rfl rfl
theorem wM_X7_44 : Cond.methodLink RX7 44 ⟨"java/lang/System", "arraycopy", "(Ljava/lang/Object;ILjava/lang/Object;II)V"⟩ ∈ lw_ok := lw_i4 26 rfl rfl
theorem wM_X8_272 : Cond.methodLink RX8 272 yX7_putInFront ∈ lw_ok := lw_i4 29 rfl rfl
theorem wV_X7_putInFront : Cond.instanceMethod yX7_putInFront ∈ lw_ok := lw_i4 30 rfl rfl
theorem wL_X7_putInFront : Cond.selects RX7 yX7_putInFront yX7_putInFront ∈ lw_ok := lw_i4 31 rfl rfl
theorem wK_X7_putInFront : Cond.code yX7_putInFront cX7_putInFront 4 (some .boolean) ∈ lw_ok := lw_i4 32 rfl rfl
theorem wM_X8_216 : Cond.methodLink RX8 216 yX1_lets ∈ lw_ok := lw_i4 33 rfl rfl
theorem wV_X1_lets : Cond.instanceMethod yX1_lets ∈ lw_ok := lw_i4 34 rfl rfl
theorem wL_X1_lets : Cond.selects RX1 yX1_lets yX1_lets ∈ lw_ok := lw_i4 35 rfl rfl
theorem wK_X1_lets : Cond.code yX1_lets cX1_lets 5 (some .boolean) ∈ lw_ok := lw_i4 36 rfl rfl
theorem wM_X1_29 : Cond.methodLink RX1 29 yX9_end ∈ lw_ok := lw_i4 37 rfl rfl
theorem wM_X1_41 : Cond.methodLink RX1 41 yX9_partnerRole ∈ lw_ok := lw_i4 38 rfl rfl
theorem wV_X9_partnerRole : Cond.instanceMethod yX9_partnerRole ∈ lw_ok := lw_i4 39 rfl rfl
theorem wL_X9_partnerRole : Cond.selects RX9 yX9_partnerRole yX9_partnerRole ∈ lw_ok := lw_i4 40 rfl rfl
theorem wK_X9_partnerRole : Cond.code yX9_partnerRole cX9_partnerRole 2 (some .int) ∈ lw_ok := lw_i4 41 rfl rfl
theorem wM_X1_53 : Cond.methodLink RX1 53 yX1_goThrough ∈ lw_ok := lw_i4 42 rfl rfl
theorem wV_X1_goThrough : Cond.instanceMethod yX1_goThrough ∈ lw_ok := lw_i4 44 rfl rfl
theorem wK_X1_goThrough : Cond.code yX1_goThrough cX1_goThrough 11 none ∈ lw_ok := lw_i4 45 rfl rfl
theorem wM_X1_64 : Cond.methodLink RX1 64 yX1_isSo ∈ lw_ok := lw_i4 46 rfl rfl
theorem wV_X1_isSo : Cond.instanceMethod yX1_isSo ∈ lw_ok := lw_i4 48 rfl rfl
theorem wK_X1_isSo : Cond.code yX1_isSo cX1_isSo 8 (some .boolean) ∈ lw_ok := lw_i4 49 rfl rfl
theorem wM_X1_85 : Cond.methodLink RX1 85 yX10_maskOf ∈ lw_ok := lw_i4 50 rfl rfl
theorem wM_X1_88 : Cond.methodLink RX1 88 yX5_tells ∈ lw_ok := lw_i4 51 rfl rfl
theorem wV_X5_tells : Cond.instanceMethod yX5_tells ∈ lw_ok := lw_i4 52 rfl rfl
theorem wL_X5_tells : Cond.selects RX5 yX5_tells yX5_tells ∈ lw_ok := lw_i4 53 rfl rfl
theorem wK_X5_tells : Cond.code yX5_tells cX5_tells 13 (some .boolean) ∈ lw_ok := lw_i4 54 rfl rfl
theorem wM_X1_92 : Cond.methodLink RX1 92 yX7_hasMark ∈ lw_ok := lw_i4 55 rfl rfl
theorem wV_X7_hasMark : Cond.instanceMethod yX7_hasMark ∈ lw_ok := lw_i4 56 rfl rfl
theorem wL_X7_hasMark : Cond.selects RX7 yX7_hasMark yX7_hasMark ∈ lw_ok := lw_i4 57 rfl rfl
theorem wK_X7_hasMark : Cond.code yX7_hasMark cX7_hasMark 3 (some .boolean) ∈ lw_ok := lw_i4 58 rfl rfl
theorem wM_X1_99 : Cond.methodLink RX1 99 ⟨"java/lang/Integer", "compare", "(II)I"⟩ ∈ lw_ok := lw_i4 59 rfl rfl
theorem wM_X1_120 : Cond.methodLink RX1 120 yX10_verdictOn ∈ lw_ok := lw_i4 62 rfl rfl
theorem wV_X10_verdictOn : Cond.instanceMethod yX10_verdictOn ∈ lw_ok := lw_i4 63 rfl rfl
theorem wL_X10_verdictOn : Cond.selects RX10 yX10_verdictOn yX10_verdictOn ∈ lw_ok := lw_i4 64 rfl rfl
theorem wK_X10_verdictOn : Cond.code yX10_verdictOn cX10_verdictOn 11 (some .int) ∈ lw_ok := lw_i4 65 rfl rfl
theorem wM_X1_68 : Cond.methodLink RX1 68 yX1_doActs ∈ lw_ok := lw_i4 66 rfl rfl
theorem wV_X1_doActs : Cond.instanceMethod yX1_doActs ∈ lw_ok := lw_i4 68 rfl rfl
theorem wK_X1_doActs : Cond.code yX1_doActs cX1_doActs 7 none ∈ lw_ok := lw_i4 69 rfl rfl
theorem wM_X1_124 : Cond.methodLink RX1 124 yX7_addMark ∈ lw_ok := lw_i4 70 rfl rfl
theorem wV_X7_addMark : Cond.instanceMethod yX7_addMark ∈ lw_ok := lw_i4 71 rfl rfl
theorem wL_X7_addMark : Cond.selects RX7 yX7_addMark yX7_addMark ∈ lw_ok := lw_i4 72 rfl rfl
theorem wK_X7_addMark : Cond.code yX7_addMark cX7_addMark 5 none ∈ lw_ok := lw_i4 73 rfl rfl
theorem wM_X1_128 : Cond.methodLink RX1 128 yX7_dropMark ∈ lw_ok := lw_i4 74 rfl rfl
theorem wV_X7_dropMark : Cond.instanceMethod yX7_dropMark ∈ lw_ok := lw_i4 75 rfl rfl
theorem wL_X7_dropMark : Cond.selects RX7 yX7_dropMark yX7_dropMark ∈ lw_ok := lw_i4 76 rfl rfl
theorem wK_X7_dropMark : Cond.code yX7_dropMark cX7_dropMark 4 none ∈ lw_ok := lw_i4 77 rfl rfl
theorem wM_X1_131 : Cond.methodLink RX1 131 yX7_putInFront ∈ lw_ok := lw_i4 78 rfl rfl
theorem wM_X8_99 : Cond.methodLink RX8 99 yX9_placeOf ∈ lw_ok := lw_i4 79 rfl rfl
theorem wS_X9_placeOf : Cond.static yX9_placeOf ∈ lw_ok := lw_i4 80 rfl rfl
theorem wK_X9_placeOf : Cond.code yX9_placeOf cX9_placeOf 2 (some .int) ∈ lw_ok := lw_i4 81 rfl rfl
theorem wM_X8_196 : Cond.methodLink RX8 196 yX7_isAlike ∈ lw_ok := lw_i4 82 rfl rfl
theorem wV_X7_isAlike : Cond.instanceMethod yX7_isAlike ∈ lw_ok := lw_i4 83 rfl rfl
theorem wL_X7_isAlike : Cond.selects RX7 yX7_isAlike yX7_isAlike ∈ lw_ok := lw_i4 84 rfl rfl
theorem wK_X7_isAlike : Cond.code yX7_isAlike cX7_isAlike 3 (some .boolean) ∈ lw_ok := lw_i4 85 rfl rfl
theorem wM_X8_143 : Cond.methodLink RX8 143 yX8_slotOf ∈ lw_ok := lw_i4 86 rfl rfl
theorem wS_X8_slotOf : Cond.static yX8_slotOf ∈ lw_ok := lw_i4 87 rfl rfl
theorem wK_X8_slotOf : Cond.code yX8_slotOf cX8_slotOf 4 (some .int) ∈ lw_ok := lw_i4 88 rfl rfl
theorem wM_X8_266 : Cond.methodLink RX8 266 yX8_schedule ∈ lw_ok := lw_i4 89 rfl rfl
theorem wV_X8_schedule : Cond.instanceMethod yX8_schedule ∈ lw_ok := lw_i4 91 rfl rfl
theorem wK_X8_schedule : Cond.code yX8_schedule cX8_schedule 4 none ∈ lw_ok := lw_i4 92 rfl rfl
theorem wM_X8_56 : Cond.methodLink RX8 56 ⟨"java/lang/System", "arraycopy", "(Ljava/lang/Object;ILjava/lang/Object;II)V"⟩ ∈ lw_ok := lw_i4 93 rfl rfl
theorem wM_X8_65 : Cond.methodLink RX8 65 yX8_cancel ∈ lw_ok := lw_i4 94 rfl rfl
theorem wV_X8_cancel : Cond.instanceMethod yX8_cancel ∈ lw_ok := lw_i4 96 rfl rfl
theorem wK_X8_cancel : Cond.code yX8_cancel cX8_cancel 3 none ∈ lw_ok := lw_i4 97 rfl rfl
theorem wM_X11_142 : Cond.methodLink RX11 142 yX8_silence ∈ lw_ok := lw_i4 98 rfl rfl
theorem wV_X8_silence : Cond.instanceMethod yX8_silence ∈ lw_ok := lw_i4 99 rfl rfl
theorem wL_X8_silence : Cond.selects RX8 yX8_silence yX8_silence ∈ lw_ok := lw_i4 100 rfl rfl
theorem wK_X8_silence : Cond.code yX8_silence cX8_silence 6 none ∈ lw_ok := lw_i4 101 rfl rfl
theorem wM_X8_140 : Cond.methodLink RX8 140 yX7_vanish ∈ lw_ok := lw_i4 102 rfl rfl
theorem wV_X7_vanish : Cond.instanceMethod yX7_vanish ∈ lw_ok := lw_i4 103 rfl rfl
theorem wL_X7_vanish : Cond.selects RX7 yX7_vanish yX7_vanish ∈ lw_ok := lw_i4 104 rfl rfl
theorem wK_X7_vanish : Cond.code yX7_vanish cX7_vanish 1 none ∈ lw_ok := lw_i4 105 rfl rfl
theorem wM_X11_148 : Cond.methodLink RX11 148 yX8_lookAtAll ∈ lw_ok := lw_i4 106 rfl rfl
theorem wV_X8_lookAtAll : Cond.instanceMethod yX8_lookAtAll ∈ lw_ok := lw_i4 107 rfl rfl
theorem wL_X8_lookAtAll : Cond.selects RX8 yX8_lookAtAll yX8_lookAtAll ∈ lw_ok := lw_i4 108 rfl rfl
theorem wK_X8_lookAtAll : Cond.code yX8_lookAtAll cX8_lookAtAll 3 none ∈ lw_ok := lw_i4 109 rfl rfl
theorem wM_X8_92 : Cond.methodLink RX8 92 yX8_look ∈ lw_ok := lw_i4 110 rfl rfl
theorem wV_X8_look : Cond.instanceMethod yX8_look ∈ lw_ok := lw_i4 111 rfl rfl
theorem wL_X8_look : Cond.selects RX8 yX8_look yX8_look ∈ lw_ok := lw_i4 112 rfl rfl
theorem wK_X8_look : Cond.code yX8_look cX8_look 8 none ∈ lw_ok := lw_i4 113 rfl rfl
theorem wG_X8_166 : Cond.constant RX8 166 (-99999999) ∈ lw_ok := lw_i4 114 rfl rfl
theorem wM_X8_172 : Cond.methodLink RX8 172 yX7_begin ∈ lw_ok := lw_i4 115 rfl rfl
theorem wV_X7_begin : Cond.instanceMethod yX7_begin ∈ lw_ok := lw_i4 116 rfl rfl
theorem wL_X7_begin : Cond.selects RX7 yX7_begin yX7_begin ∈ lw_ok := lw_i4 117 rfl rfl
theorem wK_X7_begin : Cond.code yX7_begin cX7_begin 3 none ∈ lw_ok := lw_i4 118 rfl rfl
theorem wM_X8_175 : Cond.methodLink RX8 175 yX8_gather ∈ lw_ok := lw_i4 119 rfl rfl
theorem wV_X8_gather : Cond.instanceMethod yX8_gather ∈ lw_ok := lw_i4 121 rfl rfl
theorem wK_X8_gather : Cond.code yX8_gather cX8_gather 8 none ∈ lw_ok := lw_i4 122 rfl rfl
theorem wM_X8_156 : Cond.methodLink RX8 156 yX9_sideOf ∈ lw_ok := lw_i4 123 rfl rfl
theorem wV_X9_sideOf : Cond.instanceMethod yX9_sideOf ∈ lw_ok := lw_i4 124 rfl rfl
theorem wL_X9_sideOf : Cond.selects RX9 yX9_sideOf yX9_sideOf ∈ lw_ok := lw_i4 125 rfl rfl
theorem wK_X9_sideOf : Cond.code yX9_sideOf cX9_sideOf 2 (some .int) ∈ lw_ok := lw_i4 126 rfl rfl
theorem wM_X8_206 : Cond.methodLink RX8 206 yX7_passes ∈ lw_ok := lw_i4 127 rfl rfl
theorem wV_X7_passes : Cond.instanceMethod yX7_passes ∈ lw_ok := lw_i4 128 rfl rfl
theorem wL_X7_passes : Cond.selects RX7 yX7_passes yX7_passes ∈ lw_ok := lw_i4 129 rfl rfl
theorem wK_X7_passes : Cond.code yX7_passes cX7_passes 3 (some .boolean) ∈ lw_ok := lw_i4 130 rfl rfl
theorem wM_X8_181 : Cond.methodLink RX8 181 yX8_pickGrouped ∈ lw_ok := lw_i4 131 rfl rfl
theorem wV_X8_pickGrouped : Cond.instanceMethod yX8_pickGrouped ∈ lw_ok := lw_i4 133 rfl rfl
theorem wK_X8_pickGrouped : Cond.code yX8_pickGrouped cX8_pickGrouped 4 (some .int) ∈ lw_ok := lw_i4 134 rfl rfl
theorem wM_X8_226 : Cond.methodLink RX8 226 yX8_isFirstOfGroup ∈ lw_ok := lw_i4 135 rfl rfl
theorem wV_X8_isFirstOfGroup : Cond.instanceMethod yX8_isFirstOfGroup ∈ lw_ok := lw_i4 137 rfl rfl
theorem wK_X8_isFirstOfGroup : Cond.code yX8_isFirstOfGroup cX8_isFirstOfGroup 3 (some .boolean) ∈ lw_ok := lw_i4 138 rfl rfl
theorem wM_X8_239 : Cond.methodLink RX8 239 yX7_sharesFirst ∈ lw_ok := lw_i4 139 rfl rfl
theorem wV_X7_sharesFirst : Cond.instanceMethod yX7_sharesFirst ∈ lw_ok := lw_i4 140 rfl rfl
theorem wL_X7_sharesFirst : Cond.selects RX7 yX7_sharesFirst yX7_sharesFirst ∈ lw_ok := lw_i4 141 rfl rfl
theorem wK_X7_sharesFirst : Cond.code yX7_sharesFirst cX7_sharesFirst 2 (some .boolean) ∈ lw_ok := lw_i4 142 rfl rfl
theorem wM_X8_229 : Cond.methodLink RX8 229 yX8_bestOfGroup ∈ lw_ok := lw_i4 143 rfl rfl
theorem wV_X8_bestOfGroup : Cond.instanceMethod yX8_bestOfGroup ∈ lw_ok := lw_i4 145 rfl rfl
theorem wK_X8_bestOfGroup : Cond.code yX8_bestOfGroup cX8_bestOfGroup 5 (some .int) ∈ lw_ok := lw_i4 146 rfl rfl
theorem wM_X8_235 : Cond.methodLink RX8 235 yX0_prefers ∈ lw_ok := lw_i4 147 rfl rfl
theorem wV_X0_prefers : Cond.instanceMethod yX0_prefers ∈ lw_ok := lw_i4 148 rfl rfl
theorem wL_X0_prefers : Cond.selects RX0 yX0_prefers yX0_prefers ∈ lw_ok := lw_i4 149 rfl rfl
theorem wK_X0_prefers : Cond.code yX0_prefers cX0_prefers 5 (some .boolean) ∈ lw_ok := lw_i4 150 rfl rfl
theorem wM_X0_41 : Cond.methodLink RX0 41 yX0_compareAt ∈ lw_ok := lw_i4 151 rfl rfl
theorem wS_X0_compareAt : Cond.static yX0_compareAt ∈ lw_ok := lw_i4 152 rfl rfl
theorem wK_X0_compareAt : Cond.code yX0_compareAt cX0_compareAt 3 (some .int) ∈ lw_ok := lw_i4 153 rfl rfl
theorem wM_X0_51 : Cond.methodLink RX0 51 ⟨"java/lang/Integer", "compare", "(II)I"⟩ ∈ lw_ok := lw_i4 154 rfl rfl
theorem wM_X0_63 : Cond.methodLink RX0 63 yX7_sharesFirst ∈ lw_ok := lw_i4 155 rfl rfl
theorem wM_X8_232 : Cond.methodLink RX8 232 yX8_insertWinner ∈ lw_ok := lw_i4 156 rfl rfl
theorem wV_X8_insertWinner : Cond.instanceMethod yX8_insertWinner ∈ lw_ok := lw_i4 158 rfl rfl
theorem wK_X8_insertWinner : Cond.code yX8_insertWinner cX8_insertWinner 4 none ∈ lw_ok := lw_i4 159 rfl rfl
theorem wM_X8_242 : Cond.methodLink RX8 242 yX8_groupOrder ∈ lw_ok := lw_i4 160 rfl rfl
theorem wV_X8_groupOrder : Cond.instanceMethod yX8_groupOrder ∈ lw_ok := lw_i4 162 rfl rfl
theorem wK_X8_groupOrder : Cond.code yX8_groupOrder cX8_groupOrder 2 (some .long) ∈ lw_ok := lw_i4 163 rfl rfl
theorem wH_X8_249 : Cond.constantLong RX8 249 (-1) ∈ lw_ok := lw_i4 164 rfl rfl
theorem wH_X8_254 : Cond.constantLong RX8 254 (4294967295) ∈ lw_ok := lw_i4 165 rfl rfl
theorem wM_X8_222 : Cond.methodLink RX8 222 yX8_lastStanding ∈ lw_ok := lw_i4 166 rfl rfl
theorem wV_X8_lastStanding : Cond.instanceMethod yX8_lastStanding ∈ lw_ok := lw_i4 168 rfl rfl
theorem wK_X8_lastStanding : Cond.code yX8_lastStanding cX8_lastStanding 5 (some .int) ∈ lw_ok := lw_i4 169 rfl rfl
theorem wM_X8_185 : Cond.methodLink RX8 185 yX8_pickPlain ∈ lw_ok := lw_i4 170 rfl rfl
theorem wV_X8_pickPlain : Cond.instanceMethod yX8_pickPlain ∈ lw_ok := lw_i4 172 rfl rfl
theorem wK_X8_pickPlain : Cond.code yX8_pickPlain cX8_pickPlain 3 (some .int) ∈ lw_ok := lw_i4 173 rfl rfl
theorem wM_DomainHouseLaw_47 : Cond.methodLink "DomainHouseLaw" 47 yX11_cone ∈ lw_ok := lw_i4 174 rfl rfl
theorem wV_X11_cone : Cond.instanceMethod yX11_cone ∈ lw_ok := lw_i4 175 rfl rfl
theorem wL_X11_cone : Cond.selects RX11 yX11_cone yX11_cone ∈ lw_ok := lw_i4 176 rfl rfl
theorem wK_X11_cone : Cond.code yX11_cone cX11_cone 4 (some .int) ∈ lw_ok := lw_i4 177 rfl rfl
theorem wM_X11_154 : Cond.methodLink RX11 154 yX10_coneOf ∈ lw_ok := lw_i4 178 rfl rfl
theorem wV_X10_coneOf : Cond.instanceMethod yX10_coneOf ∈ lw_ok := lw_i4 179 rfl rfl
theorem wL_X10_coneOf : Cond.selects RX10 yX10_coneOf yX10_coneOf ∈ lw_ok := lw_i4 180 rfl rfl
theorem wK_X10_coneOf : Cond.code yX10_coneOf cX10_coneOf 6 (some .int) ∈ lw_ok := lw_i4 181 rfl rfl
theorem wM_X11_157 : Cond.methodLink RX11 157 ⟨"java/lang/Integer", "bitCount", "(I)I"⟩ ∈ lw_ok := lw_i4 182 rfl rfl
theorem wM_DomainHouseLaw_51 : Cond.methodLink "DomainHouseLaw" 51 yX11_ring ∈ lw_ok := lw_i4 188 rfl rfl
theorem wV_X11_ring : Cond.instanceMethod yX11_ring ∈ lw_ok := lw_i4 189 rfl rfl
theorem wL_X11_ring : Cond.selects RX11 yX11_ring yX11_ring ∈ lw_ok := lw_i4 190 rfl rfl
theorem wK_X11_ring : Cond.code yX11_ring cX11_ring 3 (some .int) ∈ lw_ok := lw_i4 191 rfl rfl
theorem wM_X11_162 : Cond.methodLink RX11 162 yX10_findRing ∈ lw_ok := lw_i4 192 rfl rfl
theorem wV_X10_findRing : Cond.instanceMethod yX10_findRing ∈ lw_ok := lw_i4 193 rfl rfl
theorem wL_X10_findRing : Cond.selects RX10 yX10_findRing yX10_findRing ∈ lw_ok := lw_i4 194 rfl rfl
theorem wK_X10_findRing : Cond.code yX10_findRing cX10_findRing 3 (some .int) ∈ lw_ok := lw_i4 195 rfl rfl
theorem wM_X10_87 : Cond.methodLink RX10 87 yX10_shortestRing ∈ lw_ok := lw_i4 196 rfl rfl
theorem wV_X10_shortestRing : Cond.instanceMethod yX10_shortestRing ∈ lw_ok := lw_i4 198 rfl rfl
theorem wK_X10_shortestRing : Cond.code yX10_shortestRing cX10_shortestRing 7 (some .int) ∈ lw_ok := lw_i4 199 rfl rfl
theorem wM_X10_94 : Cond.methodLink RX10 94 ⟨"java/util/Arrays", "fill", "([II)V"⟩ ∈ lw_ok := lw_i4 200 rfl rfl
theorem wM_X10_100 : Cond.methodLink RX10 100 ⟨"java/lang/Math", "min", "(II)I"⟩ ∈ lw_ok := lw_i4 201 rfl rfl
theorem wM_X10_90 : Cond.methodLink RX10 90 yX10_fillRing ∈ lw_ok := lw_i4 204 rfl rfl
theorem wV_X10_fillRing : Cond.instanceMethod yX10_fillRing ∈ lw_ok := lw_i4 206 rfl rfl
theorem wK_X10_fillRing : Cond.code yX10_fillRing cX10_fillRing 4 none ∈ lw_ok := lw_i4 207 rfl rfl
theorem wM_X10_106 : Cond.methodLink RX10 106 yX10_leastCustomer ∈ lw_ok := lw_i4 208 rfl rfl
theorem wV_X10_leastCustomer : Cond.instanceMethod yX10_leastCustomer ∈ lw_ok := lw_i4 210 rfl rfl
theorem wK_X10_leastCustomer : Cond.code yX10_leastCustomer cX10_leastCustomer 6 (some .int) ∈ lw_ok := lw_i4 211 rfl rfl
theorem wG_X11_165 : Cond.constant RX11 165 (-99999999) ∈ lw_ok := lw_i4 212 rfl rfl
theorem wM_DomainHouseLaw_55 : Cond.methodLink "DomainHouseLaw" 55 yX11_walk ∈ lw_ok := lw_i4 213 rfl rfl
theorem wV_X11_walk : Cond.instanceMethod yX11_walk ∈ lw_ok := lw_i4 214 rfl rfl
theorem wL_X11_walk : Cond.selects RX11 yX11_walk yX11_walk ∈ lw_ok := lw_i4 215 rfl rfl
theorem wK_X11_walk : Cond.code yX11_walk cX11_walk 2 (some .int) ∈ lw_ok := lw_i4 216 rfl rfl
theorem wM_DomainHouseLaw_59 : Cond.methodLink "DomainHouseLaw" 59 yX11_letWay ∈ lw_ok := lw_i4 217 rfl rfl
theorem wV_X11_letWay : Cond.instanceMethod yX11_letWay ∈ lw_ok := lw_i4 218 rfl rfl
theorem wL_X11_letWay : Cond.selects RX11 yX11_letWay yX11_letWay ∈ lw_ok := lw_i4 219 rfl rfl
theorem wK_X11_letWay : Cond.code yX11_letWay cX11_letWay 1 (some .int) ∈ lw_ok := lw_i4 220 rfl rfl
theorem wM_X11_172 : Cond.methodLink RX11 172 yX10_firstWrongStep ∈ lw_ok := lw_i4 221 rfl rfl
theorem wV_X10_firstWrongStep : Cond.instanceMethod yX10_firstWrongStep ∈ lw_ok := lw_i4 222 rfl rfl
theorem wL_X10_firstWrongStep : Cond.selects RX10 yX10_firstWrongStep yX10_firstWrongStep ∈ lw_ok := lw_i4 223 rfl rfl
theorem wK_X10_firstWrongStep : Cond.code yX10_firstWrongStep cX10_firstWrongStep 8 (some .int) ∈ lw_ok := lw_i4 224 rfl rfl
theorem wM_X10_109 : Cond.methodLink RX10 109 yX10_tieBetween ∈ lw_ok := lw_i4 225 rfl rfl
theorem wM_X10_112 : Cond.methodLink RX10 112 yX9_sideOf ∈ lw_ok := lw_i4 226 rfl rfl
theorem wM_X10_115 : Cond.methodLink RX10 115 yX9_partnerRole ∈ lw_ok := lw_i4 227 rfl rfl
theorem wM_DomainHouseLaw_63 : Cond.methodLink "DomainHouseLaw" 63 yX11_today ∈ lw_ok := lw_i4 228 rfl rfl
theorem wV_X11_today : Cond.instanceMethod yX11_today ∈ lw_ok := lw_i4 229 rfl rfl
theorem wL_X11_today : Cond.selects RX11 yX11_today yX11_today ∈ lw_ok := lw_i4 230 rfl rfl
theorem wK_X11_today : Cond.code yX11_today cX11_today 3 (some .int) ∈ lw_ok := lw_i4 231 rfl rfl
theorem wM_X11_179 : Cond.methodLink RX11 179 yX8_tellAllAnew ∈ lw_ok := lw_i4 232 rfl rfl
theorem wV_X8_tellAllAnew : Cond.instanceMethod yX8_tellAllAnew ∈ lw_ok := lw_i4 233 rfl rfl
theorem wL_X8_tellAllAnew : Cond.selects RX8 yX8_tellAllAnew yX8_tellAllAnew ∈ lw_ok := lw_i4 234 rfl rfl
theorem wK_X8_tellAllAnew : Cond.code yX8_tellAllAnew cX8_tellAllAnew 4 none ∈ lw_ok := lw_i4 235 rfl rfl
theorem wM_X8_159 : Cond.methodLink RX8 159 yX8_sayAll ∈ lw_ok := lw_i4 236 rfl rfl
theorem wM_DomainHouseLaw_67 : Cond.methodLink "DomainHouseLaw" 67 yX11_right ∈ lw_ok := lw_i4 237 rfl rfl
theorem wV_X11_right : Cond.instanceMethod yX11_right ∈ lw_ok := lw_i4 238 rfl rfl
theorem wL_X11_right : Cond.selects RX11 yX11_right yX11_right ∈ lw_ok := lw_i4 239 rfl rfl
theorem wK_X11_right : Cond.code yX11_right cX11_right 8 (some .int) ∈ lw_ok := lw_i5 0 rfl rfl
theorem wM_X11_182 : Cond.methodLink RX11 182 yX11_isPrefix ∈ lw_ok := lw_i5 1 rfl rfl
theorem wV_X11_isPrefix : Cond.instanceMethod yX11_isPrefix ∈ lw_ok := lw_i5 3 rfl rfl
theorem wK_X11_isPrefix : Cond.code yX11_isPrefix cX11_isPrefix 2 (some .boolean) ∈ lw_ok := lw_i5 4 rfl rfl
theorem wM_X11_191 : Cond.methodLink RX11 191 yX10_addRight ∈ lw_ok := lw_i5 5 rfl rfl
theorem wV_X10_addRight : Cond.instanceMethod yX10_addRight ∈ lw_ok := lw_i5 6 rfl rfl
theorem wL_X10_addRight : Cond.selects RX10 yX10_addRight yX10_addRight ∈ lw_ok := lw_i5 7 rfl rfl
theorem wK_X10_addRight : Cond.code yX10_addRight cX10_addRight 7 (some .int) ∈ lw_ok := lw_i5 8 rfl rfl
theorem wM_DomainHouseLaw_72 : Cond.methodLink "DomainHouseLaw" 72 yX11_strike ∈ lw_ok := lw_i5 9 rfl rfl
theorem wV_X11_strike : Cond.instanceMethod yX11_strike ∈ lw_ok := lw_i5 10 rfl rfl
theorem wL_X11_strike : Cond.selects RX11 yX11_strike yX11_strike ∈ lw_ok := lw_i5 11 rfl rfl
theorem wK_X11_strike : Cond.code yX11_strike cX11_strike 3 (some .int) ∈ lw_ok := lw_i5 12 rfl rfl
theorem wM_DomainHouseLaw_76 : Cond.methodLink "DomainHouseLaw" 76 yX11_verdict ∈ lw_ok := lw_i5 13 rfl rfl
theorem wV_X11_verdict : Cond.instanceMethod yX11_verdict ∈ lw_ok := lw_i5 14 rfl rfl
theorem wL_X11_verdict : Cond.selects RX11 yX11_verdict yX11_verdict ∈ lw_ok := lw_i5 15 rfl rfl
theorem wK_X11_verdict : Cond.code yX11_verdict cX11_verdict 5 (some .int) ∈ lw_ok := lw_i5 16 rfl rfl
theorem wM_X11_201 : Cond.methodLink RX11 201 yX10_verdictOn ∈ lw_ok := lw_i5 17 rfl rfl
theorem wM_DomainHouseLaw_81 : Cond.methodLink "DomainHouseLaw" 81 yX11_policy ∈ lw_ok := lw_i5 18 rfl rfl
theorem wV_X11_policy : Cond.instanceMethod yX11_policy ∈ lw_ok := lw_i5 19 rfl rfl
theorem wL_X11_policy : Cond.selects RX11 yX11_policy yX11_policy ∈ lw_ok := lw_i5 20 rfl rfl
theorem wK_X11_policy : Cond.code yX11_policy cX11_policy 1 (some .int) ∈ lw_ok := lw_i5 21 rfl rfl
theorem wM_X11_208 : Cond.methodLink RX11 208 yX6_read ∈ lw_ok := lw_i5 22 rfl rfl
theorem wV_X6_read : Cond.instanceMethod yX6_read ∈ lw_ok := lw_i5 23 rfl rfl
theorem wL_X6_read : Cond.selects RX6 yX6_read yX6_read ∈ lw_ok := lw_i5 24 rfl rfl
theorem wK_X6_read : Cond.code yX6_read cX6_read 5 none ∈ lw_ok := lw_i5 25 rfl rfl
theorem wM_X6_59 : Cond.methodLink RX6 59 yX6_split ∈ lw_ok := lw_i5 26 rfl rfl
theorem wV_X6_split : Cond.instanceMethod yX6_split ∈ lw_ok := lw_i5 28 rfl rfl
theorem wK_X6_split : Cond.code yX6_split cX6_split 6 none ∈ lw_ok := lw_i5 29 rfl rfl
theorem wM_X6_86 : Cond.methodLink RX6 86 yX6_isLetter ∈ lw_ok := lw_i5 30 rfl rfl
theorem wS_X6_isLetter : Cond.static yX6_isLetter ∈ lw_ok := lw_i5 31 rfl rfl
theorem wK_X6_isLetter : Cond.code yX6_isLetter cX6_isLetter 1 (some .boolean) ∈ lw_ok := lw_i5 32 rfl rfl
theorem wM_X6_90 : Cond.methodLink RX6 90 yX6_wordAt ∈ lw_ok := lw_i5 33 rfl rfl
theorem wS_X6_wordAt : Cond.static yX6_wordAt ∈ lw_ok := lw_i5 34 rfl rfl
theorem wK_X6_wordAt : Cond.code yX6_wordAt cX6_wordAt 8 (some .int) ∈ lw_ok := lw_i5 35 rfl rfl
theorem wM_X6_107 : Cond.methodLink RX6 107 ⟨"java/lang/String", "length", "()I"⟩ ∈ lw_ok := lw_i5 37 rfl rfl
theorem wV_String_length___I : Cond.instanceMethod ⟨"java/lang/String", "length", "()I"⟩ ∈ lw_ok := lw_i5 38 rfl rfl
theorem wL_String_length___I : Cond.selects "java/lang/String" ⟨"java/lang/String", "length", "()I"⟩ ⟨"java/lang/String", "length", "()I"⟩ ∈ lw_ok := lw_i5 39 rfl rfl
theorem wM_String_335 : Cond.methodLink "java/lang/String" 335 ⟨"java/lang/String", "coder", "()B"⟩ ∈ lw_ok := lw_i5 41 rfl rfl
theorem wV_String_coder___B : Cond.instanceMethod ⟨"java/lang/String", "coder", "()B"⟩ ∈ lw_ok := lw_i5 42 rfl rfl
theorem wL_String_coder___B : Cond.selects "java/lang/String" ⟨"java/lang/String", "coder", "()B"⟩ ⟨"java/lang/String", "coder", "()B"⟩ ∈ lw_ok := lw_i5 43 rfl rfl
theorem wM_X6_113 : Cond.methodLink RX6 113 ⟨"java/lang/String", "charAt", "(I)C"⟩ ∈ lw_ok := lw_i5 47 rfl rfl
theorem wV_String_charAt__I_C : Cond.instanceMethod ⟨"java/lang/String", "charAt", "(I)C"⟩ ∈ lw_ok := lw_i5 48 rfl rfl
theorem wL_String_charAt__I_C : Cond.selects "java/lang/String" ⟨"java/lang/String", "charAt", "(I)C"⟩ ⟨"java/lang/String", "charAt", "(I)C"⟩ ∈ lw_ok := lw_i5 49 rfl rfl
theorem wM_String_492 : Cond.methodLink "java/lang/String" 492 ⟨"java/lang/String", "isLatin1", "()Z"⟩ ∈ lw_ok := lw_i5 51 rfl rfl
theorem wV_String_isLatin1___Z : Cond.instanceMethod ⟨"java/lang/String", "isLatin1", "()Z"⟩ ∈ lw_ok := lw_i5 52 rfl rfl
theorem wL_String_isLatin1___Z : Cond.selects "java/lang/String" ⟨"java/lang/String", "isLatin1", "()Z"⟩ ⟨"java/lang/String", "isLatin1", "()Z"⟩ ∈ lw_ok := lw_i5 53 rfl rfl
theorem wM_String_495 : Cond.methodLink "java/lang/String" 495 ⟨"java/lang/StringLatin1", "charAt", "([BI)C"⟩ ∈ lw_ok := lw_i5 55 rfl rfl
theorem wS_StringLatin1_charAt___BI_C : Cond.static ⟨"java/lang/StringLatin1", "charAt", "([BI)C"⟩ ∈ lw_ok := lw_i5 56 rfl rfl
theorem wM_StringLatin1_9 : Cond.methodLink "java/lang/StringLatin1" 9 ⟨"java/lang/String", "checkIndex", "(II)V"⟩ ∈ lw_ok := lw_i5 58 rfl rfl
theorem wS_String_checkIndex__II_V : Cond.static ⟨"java/lang/String", "checkIndex", "(II)V"⟩ ∈ lw_ok := lw_i5 59 rfl rfl
theorem wM_String_1059 : Cond.methodLink "java/lang/String" 1059 ⟨"jdk/internal/util/Preconditions", "checkIndex", "(IILjava/util/function/BiFunction;)I"⟩ ∈ lw_ok := lw_i5 63 rfl rfl
theorem wS_Preconditions_checkIndex__IILjava_util_function_BiFunction__I : Cond.static ⟨"jdk/internal/util/Preconditions", "checkIndex", "(IILjava/util/function/BiFunction;)I"⟩ ∈ lw_ok := lw_i5 64 rfl rfl
theorem wM_X6_94 : Cond.methodLink RX6 94 yX6_putToken ∈ lw_ok := lw_i5 85 rfl rfl
theorem wV_X6_putToken : Cond.instanceMethod yX6_putToken ∈ lw_ok := lw_i5 87 rfl rfl
theorem wK_X6_putToken : Cond.code yX6_putToken cX6_putToken 4 none ∈ lw_ok := lw_i5 88 rfl rfl
theorem wM_X6_98 : Cond.methodLink RX6 98 yX6_isFigure ∈ lw_ok := lw_i5 89 rfl rfl
theorem wS_X6_isFigure : Cond.static yX6_isFigure ∈ lw_ok := lw_i5 90 rfl rfl
theorem wK_X6_isFigure : Cond.code yX6_isFigure cX6_isFigure 1 (some .boolean) ∈ lw_ok := lw_i5 91 rfl rfl
theorem wM_X6_101 : Cond.methodLink RX6 101 yX6_putNumber ∈ lw_ok := lw_i5 92 rfl rfl
theorem wV_X6_putNumber : Cond.instanceMethod yX6_putNumber ∈ lw_ok := lw_i5 94 rfl rfl
theorem wK_X6_putNumber : Cond.code yX6_putNumber cX6_putNumber 6 none ∈ lw_ok := lw_i5 95 rfl rfl
theorem wM_X6_66 : Cond.methodLink RX6 66 yX6_readRow ∈ lw_ok := lw_i5 96 rfl rfl
theorem wV_X6_readRow : Cond.instanceMethod yX6_readRow ∈ lw_ok := lw_i5 98 rfl rfl
theorem wK_X6_readRow : Cond.code yX6_readRow cX6_readRow 5 none ∈ lw_ok := lw_i5 99 rfl rfl
theorem wM_X6_127 : Cond.methodLink RX6 127 yX6_isAct ∈ lw_ok := lw_i5 100 rfl rfl
theorem wS_X6_isAct : Cond.static yX6_isAct ∈ lw_ok := lw_i5 101 rfl rfl
theorem wK_X6_isAct : Cond.code yX6_isAct cX6_isAct 1 (some .boolean) ∈ lw_ok := lw_i5 102 rfl rfl
theorem wM_X6_123 : Cond.methodLink RX6 123 yX6_fail ∈ lw_ok := lw_i5 103 rfl rfl
theorem wV_X6_fail : Cond.instanceMethod yX6_fail ∈ lw_ok := lw_i5 105 rfl rfl
theorem wK_X6_fail : Cond.code yX6_fail cX6_fail 2 none ∈ lw_ok := lw_i5 106 rfl rfl
theorem wM_X6_130 : Cond.methodLink RX6 130 yX6_put ∈ lw_ok := lw_i5 107 rfl rfl
theorem wV_X6_put : Cond.instanceMethod yX6_put ∈ lw_ok := lw_i5 109 rfl rfl
theorem wK_X6_put : Cond.code yX6_put cX6_put 2 none ∈ lw_ok := lw_i5 110 rfl rfl
theorem wM_X6_120 : Cond.methodLink RX6 120 yX6_take ∈ lw_ok := lw_i5 111 rfl rfl
theorem wV_X6_take : Cond.instanceMethod yX6_take ∈ lw_ok := lw_i5 113 rfl rfl
theorem wK_X6_take : Cond.code yX6_take cX6_take 2 (some .boolean) ∈ lw_ok := lw_i5 114 rfl rfl
theorem wM_X6_117 : Cond.methodLink RX6 117 yX6_step ∈ lw_ok := lw_i5 115 rfl rfl
theorem wV_X6_step : Cond.instanceMethod yX6_step ∈ lw_ok := lw_i5 117 rfl rfl
theorem wK_X6_step : Cond.code yX6_step cX6_step 1 none ∈ lw_ok := lw_i5 118 rfl rfl
theorem wM_X6_133 : Cond.methodLink RX6 133 yX6_readTest ∈ lw_ok := lw_i5 119 rfl rfl
theorem wV_X6_readTest : Cond.instanceMethod yX6_readTest ∈ lw_ok := lw_i5 121 rfl rfl
theorem wK_X6_readTest : Cond.code yX6_readTest cX6_readTest 3 none ∈ lw_ok := lw_i5 122 rfl rfl
theorem wM_X6_148 : Cond.methodLink RX6 148 yX6_isTest ∈ lw_ok := lw_i5 123 rfl rfl
theorem wS_X6_isTest : Cond.static yX6_isTest ∈ lw_ok := lw_i5 124 rfl rfl
theorem wK_X6_isTest : Cond.code yX6_isTest cX6_isTest 1 (some .boolean) ∈ lw_ok := lw_i5 125 rfl rfl
theorem wM_X6_151 : Cond.methodLink RX6 151 yX6_readHeldIn ∈ lw_ok := lw_i5 126 rfl rfl
theorem wV_X6_readHeldIn : Cond.instanceMethod yX6_readHeldIn ∈ lw_ok := lw_i5 128 rfl rfl
theorem wK_X6_readHeldIn : Cond.code yX6_readHeldIn cX6_readHeldIn 6 none ∈ lw_ok := lw_i5 129 rfl rfl
theorem wM_X6_143 : Cond.methodLink RX6 143 yX6_number ∈ lw_ok := lw_i5 130 rfl rfl
theorem wV_X6_number : Cond.instanceMethod yX6_number ∈ lw_ok := lw_i5 132 rfl rfl
theorem wK_X6_number : Cond.code yX6_number cX6_number 4 (some .int) ∈ lw_ok := lw_i5 133 rfl rfl
theorem wM_X6_136 : Cond.methodLink RX6 136 yX6_expect ∈ lw_ok := lw_i5 134 rfl rfl
theorem wV_X6_expect : Cond.instanceMethod yX6_expect ∈ lw_ok := lw_i5 136 rfl rfl
theorem wK_X6_expect : Cond.code yX6_expect cX6_expect 2 none ∈ lw_ok := lw_i5 137 rfl rfl
theorem wM_X6_171 : Cond.methodLink RX6 171 yX10_maskOf ∈ lw_ok := lw_i5 138 rfl rfl
theorem wM_X6_157 : Cond.methodLink RX6 157 yX6_putTest ∈ lw_ok := lw_i5 139 rfl rfl
theorem wV_X6_putTest : Cond.instanceMethod yX6_putTest ∈ lw_ok := lw_i5 141 rfl rfl
theorem wK_X6_putTest : Cond.code yX6_putTest cX6_putTest 6 none ∈ lw_ok := lw_i5 142 rfl rfl
theorem wM_X6_154 : Cond.methodLink RX6 154 yX6_readWay ∈ lw_ok := lw_i5 143 rfl rfl
theorem wV_X6_readWay : Cond.instanceMethod yX6_readWay ∈ lw_ok := lw_i5 145 rfl rfl
theorem wK_X6_readWay : Cond.code yX6_readWay cX6_readWay 2 none ∈ lw_ok := lw_i5 146 rfl rfl
theorem wM_X6_176 : Cond.methodLink RX6 176 yX6_readBranches ∈ lw_ok := lw_i5 147 rfl rfl
theorem wV_X6_readBranches : Cond.instanceMethod yX6_readBranches ∈ lw_ok := lw_i5 149 rfl rfl
theorem wK_X6_readBranches : Cond.code yX6_readBranches cX6_readBranches 15 none ∈ lw_ok := lw_i5 150 rfl rfl
theorem wM_X6_190 : Cond.methodLink RX6 190 yX6_beginsPiece ∈ lw_ok := lw_i5 151 rfl rfl
theorem wS_X6_beginsPiece : Cond.static yX6_beginsPiece ∈ lw_ok := lw_i5 152 rfl rfl
theorem wK_X6_beginsPiece : Cond.code yX6_beginsPiece cX6_beginsPiece 1 (some .boolean) ∈ lw_ok := lw_i5 153 rfl rfl
theorem wM_X6_193 : Cond.methodLink RX6 193 yX6_readGroup ∈ lw_ok := lw_i5 154 rfl rfl
theorem wV_X6_readGroup : Cond.instanceMethod yX6_readGroup ∈ lw_ok := lw_i5 156 rfl rfl
theorem wK_X6_readGroup : Cond.code yX6_readGroup cX6_readGroup 2 none ∈ lw_ok := lw_i5 157 rfl rfl
theorem wM_X6_196 : Cond.methodLink RX6 196 yX6_readPlace ∈ lw_ok := lw_i5 158 rfl rfl
theorem wV_X6_readPlace : Cond.instanceMethod yX6_readPlace ∈ lw_ok := lw_i5 160 rfl rfl
theorem wK_X6_readPlace : Cond.code yX6_readPlace cX6_readPlace 2 none ∈ lw_ok := lw_i5 161 rfl rfl
theorem wG_X6_147 : Cond.constant RX6 147 (1000000) ∈ lw_ok := lw_i5 162 rfl rfl
theorem wM_X6_199 : Cond.methodLink RX6 199 yX6_readRepeat ∈ lw_ok := lw_i5 163 rfl rfl
theorem wV_X6_readRepeat : Cond.instanceMethod yX6_readRepeat ∈ lw_ok := lw_i5 165 rfl rfl
theorem wK_X6_readRepeat : Cond.code yX6_readRepeat cX6_readRepeat 4 none ∈ lw_ok := lw_i5 166 rfl rfl
theorem wM_X6_202 : Cond.methodLink RX6 202 yX6_join ∈ lw_ok := lw_i5 167 rfl rfl
theorem wV_X6_join : Cond.instanceMethod yX6_join ∈ lw_ok := lw_i5 169 rfl rfl
theorem wK_X6_join : Cond.code yX6_join cX6_join 6 none ∈ lw_ok := lw_i5 170 rfl rfl
theorem wG_X6_142 : Cond.constant RX6 142 (65535) ∈ lw_ok := lw_i5 171 rfl rfl
theorem wM_X6_161 : Cond.methodLink RX6 161 yX6_oneOf ∈ lw_ok := lw_i5 172 rfl rfl
theorem wV_X6_oneOf : Cond.instanceMethod yX6_oneOf ∈ lw_ok := lw_i5 174 rfl rfl
theorem wK_X6_oneOf : Cond.code yX6_oneOf cX6_oneOf 4 (some .int) ∈ lw_ok := lw_i5 175 rfl rfl
theorem wM_X6_164 : Cond.methodLink RX6 164 yX6_verdictOf ∈ lw_ok := lw_i5 176 rfl rfl
theorem wS_X6_verdictOf : Cond.static yX6_verdictOf ∈ lw_ok := lw_i5 177 rfl rfl
theorem wK_X6_verdictOf : Cond.code yX6_verdictOf cX6_verdictOf 1 (some .int) ∈ lw_ok := lw_i5 178 rfl rfl
theorem wM_X6_168 : Cond.methodLink RX6 168 yX6_relation ∈ lw_ok := lw_i5 179 rfl rfl
theorem wV_X6_relation : Cond.instanceMethod yX6_relation ∈ lw_ok := lw_i5 181 rfl rfl
theorem wK_X6_relation : Cond.code yX6_relation cX6_relation 2 (some .int) ∈ lw_ok := lw_i5 182 rfl rfl
theorem wM_X6_139 : Cond.methodLink RX6 139 yX6_readAct ∈ lw_ok := lw_i5 183 rfl rfl
theorem wV_X6_readAct : Cond.instanceMethod yX6_readAct ∈ lw_ok := lw_i5 185 rfl rfl
theorem wK_X6_readAct : Cond.code yX6_readAct cX6_readAct 2 none ∈ lw_ok := lw_i5 186 rfl rfl
theorem wM_X11_218 : Cond.methodLink RX11 218 yX6_result ∈ lw_ok := lw_i5 187 rfl rfl
theorem wV_X6_result : Cond.instanceMethod yX6_result ∈ lw_ok := lw_i5 188 rfl rfl
theorem wL_X6_result : Cond.selects RX6 yX6_result yX6_result ∈ lw_ok := lw_i5 189 rfl rfl
theorem wK_X6_result : Cond.code yX6_result cX6_result 1 (some (.object "DomainHouse$Policy")) ∈ lw_ok := lw_i5 190 rfl rfl
theorem wC_X6_69 : Cond.classLink RX6 69 RX5 ∈ lw_ok := lw_i5 191 rfl rfl
theorem wN_X5 : Cond.instantiable RX5 6 ∈ lw_ok := lw_i5 192 rfl rfl
theorem wM_X6_71 : Cond.methodLink RX6 71 ⟨"java/util/Arrays", "copyOf", "([II)[I"⟩ ∈ lw_ok := lw_i5 193 rfl rfl
theorem wC_Arrays_317 : Cond.classLink "java/util/Arrays" 317 "[I" ∈ lw_ok := lw_i5 202 rfl rfl
theorem wM_X6_77 : Cond.methodLink RX6 77 ⟨"java/util/Arrays", "copyOf", "([JI)[J"⟩ ∈ lw_ok := lw_i5 205 rfl rfl
theorem wC_Arrays_320 : Cond.classLink "java/util/Arrays" 320 "[J" ∈ lw_ok := lw_i5 212 rfl rfl
theorem wM_X6_80 : Cond.methodLink RX6 80 yX5_init ∈ lw_ok := lw_i5 213 rfl rfl
theorem wV_X5_init : Cond.instanceMethod yX5_init ∈ lw_ok := lw_i5 214 rfl rfl
theorem wK_X5_init : Cond.code yX5_init cX5_init 7 none ∈ lw_ok := lw_i5 215 rfl rfl
theorem wM_X5_1 : Cond.methodLink RX5 1 objectInit ∈ lw_ok := lw_i5 216 rfl rfl
theorem wF_X5_7 : Cond.fieldLink RX5 7 RX5 "rows" "I" ∈ lw_ok := lw_i5 217 rfl rfl
theorem wF_X1_57 : Cond.fieldLink RX1 57 RX5 "rows" "I" ∈ lw_ok := lw_i5 218 rfl rfl
theorem wF_X5_13 : Cond.fieldLink RX5 13 RX5 "code" "[I" ∈ lw_ok := lw_i5 219 rfl rfl
theorem wF_X1_60 : Cond.fieldLink RX1 60 RX5 "code" "[I" ∈ lw_ok := lw_i5 220 rfl rfl
theorem wF_X5_17 : Cond.fieldLink RX5 17 RX5 "places" "[I" ∈ lw_ok := lw_i5 221 rfl rfl
theorem wF_X5_20 : Cond.fieldLink RX5 20 RX5 "next" "[J" ∈ lw_ok := lw_i5 222 rfl rfl
theorem wF_X5_24 : Cond.fieldLink RX5 24 RX5 "first" "[J" ∈ lw_ok := lw_i5 223 rfl rfl
theorem wF_X5_27 : Cond.fieldLink RX5 27 RX5 "last" "[J" ∈ lw_ok := lw_i5 224 rfl rfl
theorem wM_X11_222 : Cond.methodLink RX11 222 yX1_addPolicy ∈ lw_ok := lw_i5 238 rfl rfl
theorem wV_X1_addPolicy : Cond.instanceMethod yX1_addPolicy ∈ lw_ok := lw_i5 239 rfl rfl
theorem wL_X1_addPolicy : Cond.selects RX1 yX1_addPolicy yX1_addPolicy ∈ lw_ok := lw_i6 0 rfl rfl
theorem wK_X1_addPolicy : Cond.code yX1_addPolicy cX1_addPolicy 2 (some .int) ∈ lw_ok := lw_i6 1 rfl rfl
theorem wM_DomainHouseLaw_85 : Cond.methodLink "DomainHouseLaw" 85 yX11_fault ∈ lw_ok := lw_i6 2 rfl rfl
theorem wV_X11_fault : Cond.instanceMethod yX11_fault ∈ lw_ok := lw_i6 3 rfl rfl
theorem wL_X11_fault : Cond.selects RX11 yX11_fault yX11_fault ∈ lw_ok := lw_i6 4 rfl rfl
theorem wK_X11_fault : Cond.code yX11_fault cX11_fault 1 (some .int) ∈ lw_ok := lw_i6 5 rfl rfl
theorem wM_DomainHouseLaw_89 : Cond.methodLink "DomainHouseLaw" 89 yX11_route ∈ lw_ok := lw_i6 6 rfl rfl
theorem wV_X11_route : Cond.instanceMethod yX11_route ∈ lw_ok := lw_i6 7 rfl rfl
theorem wL_X11_route : Cond.selects RX11 yX11_route yX11_route ∈ lw_ok := lw_i6 8 rfl rfl
theorem wK_X11_route : Cond.code yX11_route cX11_route 5 (some .int) ∈ lw_ok := lw_i6 9 rfl rfl
theorem wG_X11_226 : Cond.constant RX11 226 (1000000) ∈ lw_ok := lw_i6 10 rfl rfl
theorem wM_X11_227 : Cond.methodLink RX11 227 yX7_begin ∈ lw_ok := lw_i6 11 rfl rfl
theorem wM_X11_239 : Cond.methodLink RX11 239 ⟨"java/lang/System", "arraycopy", "(Ljava/lang/Object;ILjava/lang/Object;II)V"⟩ ∈ lw_ok := lw_i6 12 rfl rfl
theorem wM_DomainHouseLaw_93 : Cond.methodLink "DomainHouseLaw" 93 yX11_judge ∈ lw_ok := lw_i6 13 rfl rfl
theorem wV_X11_judge : Cond.instanceMethod yX11_judge ∈ lw_ok := lw_i6 14 rfl rfl
theorem wL_X11_judge : Cond.selects RX11 yX11_judge yX11_judge ∈ lw_ok := lw_i6 15 rfl rfl
theorem wK_X11_judge : Cond.code yX11_judge cX11_judge 6 (some .int) ∈ lw_ok := lw_i6 16 rfl rfl
theorem wM_X11_249 : Cond.methodLink RX11 249 yX9_sideOf ∈ lw_ok := lw_i6 17 rfl rfl
theorem wM_X11_252 : Cond.methodLink RX11 252 yX1_lets ∈ lw_ok := lw_i6 18 rfl rfl
theorem wM_DomainHouseLaw_97 : Cond.methodLink "DomainHouseLaw" 97 yX11_hand ∈ lw_ok := lw_i6 19 rfl rfl
theorem wV_X11_hand : Cond.instanceMethod yX11_hand ∈ lw_ok := lw_i6 20 rfl rfl
theorem wL_X11_hand : Cond.selects RX11 yX11_hand yX11_hand ∈ lw_ok := lw_i6 21 rfl rfl
theorem wK_X11_hand : Cond.code yX11_hand cX11_hand 2 (some .int) ∈ lw_ok := lw_i6 22 rfl rfl
theorem wM_X11_265 : Cond.methodLink RX11 265 yX11_rowInHand ∈ lw_ok := lw_i6 23 rfl rfl
theorem wV_X11_rowInHand : Cond.instanceMethod yX11_rowInHand ∈ lw_ok := lw_i6 25 rfl rfl
theorem wK_X11_rowInHand : Cond.code yX11_rowInHand cX11_rowInHand 2 (some .int) ∈ lw_ok := lw_i6 26 rfl rfl
theorem wM_DomainHouseLaw_101 : Cond.methodLink "DomainHouseLaw" 101 yX11_use ∈ lw_ok := lw_i6 27 rfl rfl
theorem wV_X11_use : Cond.instanceMethod yX11_use ∈ lw_ok := lw_i6 28 rfl rfl
theorem wL_X11_use : Cond.selects RX11 yX11_use yX11_use ∈ lw_ok := lw_i6 29 rfl rfl
theorem wK_X11_use : Cond.code yX11_use cX11_use 5 (some .int) ∈ lw_ok := lw_i6 30 rfl rfl
theorem wM_X11_271 : Cond.methodLink RX11 271 yX11_isEither ∈ lw_ok := lw_i6 31 rfl rfl
theorem wS_X11_isEither : Cond.static yX11_isEither ∈ lw_ok := lw_i6 32 rfl rfl
theorem wK_X11_isEither : Cond.code yX11_isEither cX11_isEither 1 (some .boolean) ∈ lw_ok := lw_i6 33 rfl rfl
theorem wM_X11_277 : Cond.methodLink RX11 277 yX9_end ∈ lw_ok := lw_i6 34 rfl rfl
theorem wM_DomainHouseLaw_105 : Cond.methodLink "DomainHouseLaw" 105 yX11_rule ∈ lw_ok := lw_i6 35 rfl rfl
theorem wV_X11_rule : Cond.instanceMethod yX11_rule ∈ lw_ok := lw_i6 36 rfl rfl
theorem wL_X11_rule : Cond.selects RX11 yX11_rule yX11_rule ∈ lw_ok := lw_i6 37 rfl rfl
theorem wK_X11_rule : Cond.code yX11_rule cX11_rule 4 (some .int) ∈ lw_ok := lw_i6 38 rfl rfl
theorem wM_X11_280 : Cond.methodLink RX11 280 yX11_isRule ∈ lw_ok := lw_i6 39 rfl rfl
theorem wS_X11_isRule : Cond.static yX11_isRule ∈ lw_ok := lw_i6 40 rfl rfl
theorem wK_X11_isRule : Cond.code yX11_isRule cX11_isRule 4 (some .boolean) ∈ lw_ok := lw_i6 41 rfl rfl
theorem wM_X11_287 : Cond.methodLink RX11 287 yX0_goBy ∈ lw_ok := lw_i6 42 rfl rfl
theorem wM_DomainHouseLaw_110 : Cond.methodLink "DomainHouseLaw" 110 yX11_announce ∈ lw_ok := lw_i6 43 rfl rfl
theorem wV_X11_announce : Cond.instanceMethod yX11_announce ∈ lw_ok := lw_i6 44 rfl rfl
theorem wL_X11_announce : Cond.selects RX11 yX11_announce yX11_announce ∈ lw_ok := lw_i6 45 rfl rfl
theorem wK_X11_announce : Cond.code yX11_announce cX11_announce 4 (some .int) ∈ lw_ok := lw_i6 46 rfl rfl
theorem wM_X11_296 : Cond.methodLink RX11 296 yX8_look ∈ lw_ok := lw_i6 47 rfl rfl
theorem wM_DomainHouseLaw_114 : Cond.methodLink "DomainHouseLaw" 114 yX11_withdraw ∈ lw_ok := lw_i6 48 rfl rfl
theorem wV_X11_withdraw : Cond.instanceMethod yX11_withdraw ∈ lw_ok := lw_i6 49 rfl rfl
theorem wL_X11_withdraw : Cond.selects RX11 yX11_withdraw yX11_withdraw ∈ lw_ok := lw_i6 50 rfl rfl
theorem wK_X11_withdraw : Cond.code yX11_withdraw cX11_withdraw 3 (some .int) ∈ lw_ok := lw_i6 51 rfl rfl
theorem wM_DomainHouseLaw_118 : Cond.methodLink "DomainHouseLaw" 118 yX11_go ∈ lw_ok := lw_i6 52 rfl rfl
theorem wV_X11_go : Cond.instanceMethod yX11_go ∈ lw_ok := lw_i6 53 rfl rfl
theorem wL_X11_go : Cond.selects RX11 yX11_go yX11_go ∈ lw_ok := lw_i6 54 rfl rfl
theorem wK_X11_go : Cond.code yX11_go cX11_go 3 (some .int) ∈ lw_ok := lw_i6 55 rfl rfl
theorem wG_X11_299 : Cond.constant RX11 299 (2000000000) ∈ lw_ok := lw_i6 56 rfl rfl
theorem wM_X11_300 : Cond.methodLink RX11 300 yX8_doNext ∈ lw_ok := lw_i6 57 rfl rfl
theorem wV_X8_doNext : Cond.instanceMethod yX8_doNext ∈ lw_ok := lw_i6 58 rfl rfl
theorem wL_X8_doNext : Cond.selects RX8 yX8_doNext yX8_doNext ∈ lw_ok := lw_i6 59 rfl rfl
theorem wK_X8_doNext : Cond.code yX8_doNext cX8_doNext 6 (some .boolean) ∈ lw_ok := lw_i6 60 rfl rfl
theorem wM_X8_82 : Cond.methodLink RX8 82 yX8_handOver ∈ lw_ok := lw_i6 61 rfl rfl
theorem wV_X8_handOver : Cond.instanceMethod yX8_handOver ∈ lw_ok := lw_i6 63 rfl rfl
theorem wK_X8_handOver : Cond.code yX8_handOver cX8_handOver 5 none ∈ lw_ok := lw_i6 64 rfl rfl
theorem wM_DomainHouseLaw_122 : Cond.methodLink "DomainHouseLaw" 122 yX11_until ∈ lw_ok := lw_i6 65 rfl rfl
theorem wV_X11_until : Cond.instanceMethod yX11_until ∈ lw_ok := lw_i6 66 rfl rfl
theorem wL_X11_until : Cond.selects RX11 yX11_until yX11_until ∈ lw_ok := lw_i6 67 rfl rfl
theorem wK_X11_until : Cond.code yX11_until cX11_until 3 (some .int) ∈ lw_ok := lw_i6 68 rfl rfl
theorem wG_X11_306 : Cond.constant RX11 306 (1000000000) ∈ lw_ok := lw_i6 69 rfl rfl
theorem wM_X11_307 : Cond.methodLink RX11 307 yX8_passTo ∈ lw_ok := lw_i6 70 rfl rfl
theorem wV_X8_passTo : Cond.instanceMethod yX8_passTo ∈ lw_ok := lw_i6 71 rfl rfl
theorem wL_X8_passTo : Cond.selects RX8 yX8_passTo yX8_passTo ∈ lw_ok := lw_i6 72 rfl rfl
theorem wK_X8_passTo : Cond.code yX8_passTo cX8_passTo 2 none ∈ lw_ok := lw_i6 73 rfl rfl
theorem wM_DomainHouseLaw_126 : Cond.methodLink "DomainHouseLaw" 126 yX11_picked ∈ lw_ok := lw_i6 74 rfl rfl
theorem wV_X11_picked : Cond.instanceMethod yX11_picked ∈ lw_ok := lw_i6 75 rfl rfl
theorem wL_X11_picked : Cond.selects RX11 yX11_picked yX11_picked ∈ lw_ok := lw_i6 76 rfl rfl
theorem wK_X11_picked : Cond.code yX11_picked cX11_picked 4 (some .int) ∈ lw_ok := lw_i6 77 rfl rfl
theorem wM_X11_317 : Cond.methodLink RX11 317 yX7_become ∈ lw_ok := lw_i6 78 rfl rfl
theorem wM_DomainHouseLaw_130 : Cond.methodLink "DomainHouseLaw" 130 yX11_heard ∈ lw_ok := lw_i6 79 rfl rfl
theorem wV_X11_heard : Cond.instanceMethod yX11_heard ∈ lw_ok := lw_i6 80 rfl rfl
theorem wL_X11_heard : Cond.selects RX11 yX11_heard yX11_heard ∈ lw_ok := lw_i6 81 rfl rfl
theorem wK_X11_heard : Cond.code yX11_heard cX11_heard 7 (some .int) ∈ lw_ok := lw_i6 82 rfl rfl
theorem wM_X11_321 : Cond.methodLink RX11 321 yX9_placeOf ∈ lw_ok := lw_i6 83 rfl rfl
theorem wM_DomainHouseLaw_134 : Cond.methodLink "DomainHouseLaw" 134 yX11_why ∈ lw_ok := lw_i6 84 rfl rfl
theorem wV_X11_why : Cond.instanceMethod yX11_why ∈ lw_ok := lw_i6 85 rfl rfl
theorem wL_X11_why : Cond.selects RX11 yX11_why yX11_why ∈ lw_ok := lw_i6 86 rfl rfl
theorem wK_X11_why : Cond.code yX11_why cX11_why 4 (some .int) ∈ lw_ok := lw_i6 87 rfl rfl
theorem wM_X11_333 : Cond.methodLink RX11 333 yX8_reason ∈ lw_ok := lw_i6 88 rfl rfl
theorem wV_X8_reason : Cond.instanceMethod yX8_reason ∈ lw_ok := lw_i6 89 rfl rfl
theorem wL_X8_reason : Cond.selects RX8 yX8_reason yX8_reason ∈ lw_ok := lw_i6 90 rfl rfl
theorem wK_X8_reason : Cond.code yX8_reason cX8_reason 10 (some .int) ∈ lw_ok := lw_i6 91 rfl rfl
theorem wM_X8_276 : Cond.methodLink RX8 276 yX8_candidateOver ∈ lw_ok := lw_i6 92 rfl rfl
theorem wV_X8_candidateOver : Cond.instanceMethod yX8_candidateOver ∈ lw_ok := lw_i6 94 rfl rfl
theorem wK_X8_candidateOver : Cond.code yX8_candidateOver cX8_candidateOver 3 (some .int) ∈ lw_ok := lw_i6 95 rfl rfl
theorem wM_X8_279 : Cond.methodLink RX8 279 yX0_firstUnlikeStep ∈ lw_ok := lw_i6 96 rfl rfl
theorem wV_X0_firstUnlikeStep : Cond.instanceMethod yX0_firstUnlikeStep ∈ lw_ok := lw_i6 97 rfl rfl
theorem wL_X0_firstUnlikeStep : Cond.selects RX0 yX0_firstUnlikeStep yX0_firstUnlikeStep ∈ lw_ok := lw_i6 98 rfl rfl
theorem wK_X0_firstUnlikeStep : Cond.code yX0_firstUnlikeStep cX0_firstUnlikeStep 4 (some .int) ∈ lw_ok := lw_i6 99 rfl rfl
theorem wM_DomainHouseLaw_138 : Cond.methodLink "DomainHouseLaw" 138 yX11_three ∈ lw_ok := lw_i6 100 rfl rfl
theorem wV_X11_three : Cond.instanceMethod yX11_three ∈ lw_ok := lw_i6 101 rfl rfl
theorem wL_X11_three : Cond.selects RX11 yX11_three yX11_three ∈ lw_ok := lw_i6 102 rfl rfl
theorem wK_X11_three : Cond.code yX11_three cX11_three 4 (some .int) ∈ lw_ok := lw_i6 103 rfl rfl
theorem wM_X11_336 : Cond.methodLink RX11 336 yX8_threeInRing ∈ lw_ok := lw_i6 104 rfl rfl
theorem wV_X8_threeInRing : Cond.instanceMethod yX8_threeInRing ∈ lw_ok := lw_i6 105 rfl rfl
theorem wL_X8_threeInRing : Cond.selects RX8 yX8_threeInRing yX8_threeInRing ∈ lw_ok := lw_i6 106 rfl rfl
theorem wK_X8_threeInRing : Cond.code yX8_threeInRing cX8_threeInRing 9 (some .int) ∈ lw_ok := lw_i6 107 rfl rfl
theorem wM_DomainHouseLaw_142 : Cond.methodLink "DomainHouseLaw" 142 yX11_message ∈ lw_ok := lw_i6 108 rfl rfl
theorem wV_X11_message : Cond.instanceMethod yX11_message ∈ lw_ok := lw_i6 109 rfl rfl
theorem wL_X11_message : Cond.selects RX11 yX11_message yX11_message ∈ lw_ok := lw_i6 110 rfl rfl
theorem wK_X11_message : Cond.code yX11_message cX11_message 2 (some .int) ∈ lw_ok := lw_i6 111 rfl rfl
theorem wM_X11_339 : Cond.methodLink RX11 339 yX3_read ∈ lw_ok := lw_i6 112 rfl rfl
theorem wV_X3_read : Cond.instanceMethod yX3_read ∈ lw_ok := lw_i6 113 rfl rfl
theorem wL_X3_read : Cond.selects RX3 yX3_read yX3_read ∈ lw_ok := lw_i6 114 rfl rfl
theorem wK_X3_read : Cond.code yX3_read cX3_read 4 (some .int) ∈ lw_ok := lw_i6 115 rfl rfl
theorem wM_X3_44 : Cond.methodLink RX3 44 yX3_forget ∈ lw_ok := lw_i6 116 rfl rfl
theorem wV_X3_forget : Cond.instanceMethod yX3_forget ∈ lw_ok := lw_i6 118 rfl rfl
theorem wK_X3_forget : Cond.code yX3_forget cX3_forget 1 none ∈ lw_ok := lw_i6 119 rfl rfl
theorem wM_X3_69 : Cond.methodLink RX3 69 ⟨"java/util/Arrays", "fill", "([II)V"⟩ ∈ lw_ok := lw_i6 120 rfl rfl
theorem wM_X3_75 : Cond.methodLink RX3 75 yX7_begin ∈ lw_ok := lw_i6 121 rfl rfl
theorem wM_X3_47 : Cond.methodLink RX3 47 yX3_readParts ∈ lw_ok := lw_i6 122 rfl rfl
theorem wV_X3_readParts : Cond.instanceMethod yX3_readParts ∈ lw_ok := lw_i6 124 rfl rfl
theorem wK_X3_readParts : Cond.code yX3_readParts cX3_readParts 4 none ∈ lw_ok := lw_i6 125 rfl rfl
theorem wM_X3_88 : Cond.methodLink RX3 88 yX3_pairAt ∈ lw_ok := lw_i6 126 rfl rfl
theorem wV_X3_pairAt : Cond.instanceMethod yX3_pairAt ∈ lw_ok := lw_i6 128 rfl rfl
theorem wK_X3_pairAt : Cond.code yX3_pairAt cX3_pairAt 2 (some .int) ∈ lw_ok := lw_i6 129 rfl rfl
theorem wM_X3_92 : Cond.methodLink RX3 92 yX3_note ∈ lw_ok := lw_i6 130 rfl rfl
theorem wV_X3_note : Cond.instanceMethod yX3_note ∈ lw_ok := lw_i6 132 rfl rfl
theorem wK_X3_note : Cond.code yX3_note cX3_note 3 none ∈ lw_ok := lw_i6 133 rfl rfl
theorem wM_X3_95 : Cond.methodLink RX3 95 yX3_readPrefixes ∈ lw_ok := lw_i6 134 rfl rfl
theorem wV_X3_readPrefixes : Cond.instanceMethod yX3_readPrefixes ∈ lw_ok := lw_i6 136 rfl rfl
theorem wK_X3_readPrefixes : Cond.code yX3_readPrefixes cX3_readPrefixes 10 (some .int) ∈ lw_ok := lw_i6 137 rfl rfl
theorem wM_X3_102 : Cond.methodLink RX3 102 yX10_maskOf ∈ lw_ok := lw_i6 138 rfl rfl
theorem wM_X3_99 : Cond.methodLink RX3 99 yX3_readAttributes ∈ lw_ok := lw_i6 139 rfl rfl
theorem wV_X3_readAttributes : Cond.instanceMethod yX3_readAttributes ∈ lw_ok := lw_i6 141 rfl rfl
theorem wK_X3_readAttributes : Cond.code yX3_readAttributes cX3_readAttributes 7 none ∈ lw_ok := lw_i6 142 rfl rfl
theorem wM_X3_107 : Cond.methodLink RX3 107 yX3_readAttribute ∈ lw_ok := lw_i6 143 rfl rfl
theorem wV_X3_readAttribute : Cond.instanceMethod yX3_readAttribute ∈ lw_ok := lw_i6 145 rfl rfl
theorem wK_X3_readAttribute : Cond.code yX3_readAttribute cX3_readAttribute 8 none ∈ lw_ok := lw_i6 146 rfl rfl
theorem wM_X3_111 : Cond.methodLink RX3 111 yX3_readOrigin ∈ lw_ok := lw_i6 147 rfl rfl
theorem wV_X3_readOrigin : Cond.instanceMethod yX3_readOrigin ∈ lw_ok := lw_i6 149 rfl rfl
theorem wK_X3_readOrigin : Cond.code yX3_readOrigin cX3_readOrigin 3 (some .boolean) ∈ lw_ok := lw_i6 150 rfl rfl
theorem wM_X3_115 : Cond.methodLink RX3 115 yX3_readWay ∈ lw_ok := lw_i6 151 rfl rfl
theorem wV_X3_readWay : Cond.instanceMethod yX3_readWay ∈ lw_ok := lw_i6 153 rfl rfl
theorem wK_X3_readWay : Cond.code yX3_readWay cX3_readWay 9 (some .boolean) ∈ lw_ok := lw_i6 154 rfl rfl
theorem wM_X3_130 : Cond.methodLink RX3 130 yX3_fourAt ∈ lw_ok := lw_i6 155 rfl rfl
theorem wV_X3_fourAt : Cond.instanceMethod yX3_fourAt ∈ lw_ok := lw_i6 157 rfl rfl
theorem wK_X3_fourAt : Cond.code yX3_fourAt cX3_fourAt 2 (some .int) ∈ lw_ok := lw_i6 158 rfl rfl
theorem wM_X3_143 : Cond.methodLink RX3 143 yX3_sortWithoutSign ∈ lw_ok := lw_i6 159 rfl rfl
theorem wS_X3_sortWithoutSign : Cond.static yX3_sortWithoutSign ∈ lw_ok := lw_i6 160 rfl rfl
theorem wK_X3_sortWithoutSign : Cond.code yX3_sortWithoutSign cX3_sortWithoutSign 6 none ∈ lw_ok := lw_i6 161 rfl rfl
theorem wG_X3_152 : Cond.constant RX3 152 (-2147483648) ∈ lw_ok := lw_i6 162 rfl rfl
theorem wM_X3_118 : Cond.methodLink RX3 118 yX3_readCost ∈ lw_ok := lw_i6 163 rfl rfl
theorem wV_X3_readCost : Cond.instanceMethod yX3_readCost ∈ lw_ok := lw_i6 165 rfl rfl
theorem wK_X3_readCost : Cond.code yX3_readCost cX3_readCost 4 (some .boolean) ∈ lw_ok := lw_i6 166 rfl rfl
theorem wG_X3_133 : Cond.constant RX3 133 (1000000) ∈ lw_ok := lw_i6 167 rfl rfl
theorem wM_X3_121 : Cond.methodLink RX3 121 yX3_readMarks ∈ lw_ok := lw_i6 168 rfl rfl
theorem wV_X3_readMarks : Cond.instanceMethod yX3_readMarks ∈ lw_ok := lw_i6 170 rfl rfl
theorem wK_X3_readMarks : Cond.code yX3_readMarks cX3_readMarks 4 (some .boolean) ∈ lw_ok := lw_i6 171 rfl rfl
theorem wM_X3_137 : Cond.methodLink RX3 137 yX3_keepMark ∈ lw_ok := lw_i6 172 rfl rfl
theorem wV_X3_keepMark : Cond.instanceMethod yX3_keepMark ∈ lw_ok := lw_i6 174 rfl rfl
theorem wK_X3_keepMark : Cond.code yX3_keepMark cX3_keepMark 3 none ∈ lw_ok := lw_i6 175 rfl rfl
theorem wM_X3_124 : Cond.methodLink RX3 124 yX3_carry ∈ lw_ok := lw_i6 176 rfl rfl
theorem wV_X3_carry : Cond.instanceMethod yX3_carry ∈ lw_ok := lw_i6 178 rfl rfl
theorem wK_X3_carry : Cond.code yX3_carry cX3_carry 3 none ∈ lw_ok := lw_i6 179 rfl rfl
theorem wM_X3_60 : Cond.methodLink RX3 60 yX7_addMark ∈ lw_ok := lw_i6 180 rfl rfl
theorem wM_DomainHouseLaw_146 : Cond.methodLink "DomainHouseLaw" 146 yX11_part ∈ lw_ok := lw_i6 181 rfl rfl
theorem wV_X11_part : Cond.instanceMethod yX11_part ∈ lw_ok := lw_i6 182 rfl rfl
theorem wL_X11_part : Cond.selects RX11 yX11_part yX11_part ∈ lw_ok := lw_i6 183 rfl rfl
theorem wK_X11_part : Cond.code yX11_part cX11_part 2 (some .int) ∈ lw_ok := lw_i6 184 rfl rfl
theorem wM_X11_341 : Cond.methodLink RX11 341 yX3_told ∈ lw_ok := lw_i6 185 rfl rfl
theorem wV_X3_told : Cond.instanceMethod yX3_told ∈ lw_ok := lw_i6 186 rfl rfl
theorem wL_X3_told : Cond.selects RX3 yX3_told yX3_told ∈ lw_ok := lw_i6 187 rfl rfl
theorem wK_X3_told : Cond.code yX3_told cX3_told 2 (some .int) ∈ lw_ok := lw_i6 188 rfl rfl
theorem wM_X3_153 : Cond.methodLink RX3 153 yX3_placeTold ∈ lw_ok := lw_i6 189 rfl rfl
theorem wV_X3_placeTold : Cond.instanceMethod yX3_placeTold ∈ lw_ok := lw_i6 191 rfl rfl
theorem wK_X3_placeTold : Cond.code yX3_placeTold cX3_placeTold 2 (some .int) ∈ lw_ok := lw_i6 192 rfl rfl
theorem wM_X3_157 : Cond.methodLink RX3 157 yX3_toldInAll ∈ lw_ok := lw_i6 193 rfl rfl
theorem wV_X3_toldInAll : Cond.instanceMethod yX3_toldInAll ∈ lw_ok := lw_i6 195 rfl rfl
theorem wK_X3_toldInAll : Cond.code yX3_toldInAll cX3_toldInAll 2 (some .int) ∈ lw_ok := lw_i6 196 rfl rfl
theorem wM_X3_160 : Cond.methodLink RX3 160 yX3_toldOfRow ∈ lw_ok := lw_i6 197 rfl rfl
theorem wV_X3_toldOfRow : Cond.instanceMethod yX3_toldOfRow ∈ lw_ok := lw_i6 199 rfl rfl
theorem wK_X3_toldOfRow : Cond.code yX3_toldOfRow cX3_toldOfRow 3 (some .int) ∈ lw_ok := lw_i6 200 rfl rfl
theorem wM_DomainHouseLaw_150 : Cond.methodLink "DomainHouseLaw" 150 yX11_hear ∈ lw_ok := lw_i6 201 rfl rfl
theorem wV_X11_hear : Cond.instanceMethod yX11_hear ∈ lw_ok := lw_i6 202 rfl rfl
theorem wL_X11_hear : Cond.selects RX11 yX11_hear yX11_hear ∈ lw_ok := lw_i6 203 rfl rfl
theorem wK_X11_hear : Cond.code yX11_hear cX11_hear 3 (some .int) ∈ lw_ok := lw_i6 204 rfl rfl
theorem wM_X11_347 : Cond.methodLink RX11 347 yX8_takeIn ∈ lw_ok := lw_i6 205 rfl rfl
theorem wV_X8_takeIn : Cond.instanceMethod yX8_takeIn ∈ lw_ok := lw_i6 206 rfl rfl
theorem wL_X8_takeIn : Cond.selects RX8 yX8_takeIn yX8_takeIn ∈ lw_ok := lw_i6 207 rfl rfl
theorem wK_X8_takeIn : Cond.code yX8_takeIn cX8_takeIn 10 (some .int) ∈ lw_ok := lw_i6 208 rfl rfl
theorem wM_X8_127 : Cond.methodLink RX8 127 yX10_findPrefix ∈ lw_ok := lw_i6 209 rfl rfl
theorem wM_DomainHouseLaw_154 : Cond.methodLink "DomainHouseLaw" 154 yX11_write ∈ lw_ok := lw_i6 210 rfl rfl
theorem wV_X11_write : Cond.instanceMethod yX11_write ∈ lw_ok := lw_i6 211 rfl rfl
theorem wL_X11_write : Cond.selects RX11 yX11_write yX11_write ∈ lw_ok := lw_i6 212 rfl rfl
theorem wK_X11_write : Cond.code yX11_write cX11_write 5 (some .int) ∈ lw_ok := lw_i6 213 rfl rfl
theorem wM_X11_354 : Cond.methodLink RX11 354 yX3_putDown ∈ lw_ok := lw_i6 214 rfl rfl
theorem wV_X3_putDown : Cond.instanceMethod yX3_putDown ∈ lw_ok := lw_i6 215 rfl rfl
theorem wL_X3_putDown : Cond.selects RX3 yX3_putDown yX3_putDown ∈ lw_ok := lw_i6 216 rfl rfl
theorem wK_X3_putDown : Cond.code yX3_putDown cX3_putDown 6 (some .int) ∈ lw_ok := lw_i6 217 rfl rfl
theorem wM_X3_169 : Cond.methodLink RX3 169 yX3_putNumber ∈ lw_ok := lw_i6 218 rfl rfl
theorem wV_X3_putNumber : Cond.instanceMethod yX3_putNumber ∈ lw_ok := lw_i6 220 rfl rfl
theorem wK_X3_putNumber : Cond.code yX3_putNumber cX3_putNumber 4 none ∈ lw_ok := lw_i6 221 rfl rfl
theorem wM_X3_172 : Cond.methodLink RX3 172 yX3_putPrefix ∈ lw_ok := lw_i6 222 rfl rfl
theorem wV_X3_putPrefix : Cond.instanceMethod yX3_putPrefix ∈ lw_ok := lw_i6 224 rfl rfl
theorem wK_X3_putPrefix : Cond.code yX3_putPrefix cX3_putPrefix 5 none ∈ lw_ok := lw_i6 225 rfl rfl
theorem wM_X3_175 : Cond.methodLink RX3 175 yX3_putAttributes ∈ lw_ok := lw_i6 226 rfl rfl
theorem wV_X3_putAttributes : Cond.instanceMethod yX3_putAttributes ∈ lw_ok := lw_i6 228 rfl rfl
theorem wK_X3_putAttributes : Cond.code yX3_putAttributes cX3_putAttributes 3 none ∈ lw_ok := lw_i6 229 rfl rfl
theorem wM_X3_179 : Cond.methodLink RX3 179 yX3_putHead ∈ lw_ok := lw_i6 230 rfl rfl
theorem wV_X3_putHead : Cond.instanceMethod yX3_putHead ∈ lw_ok := lw_i6 232 rfl rfl
theorem wK_X3_putHead : Cond.code yX3_putHead cX3_putHead 4 none ∈ lw_ok := lw_i6 233 rfl rfl
theorem wM_DomainHouseLaw_158 : Cond.methodLink "DomainHouseLaw" 158 yX11_octet ∈ lw_ok := lw_i6 234 rfl rfl
theorem wV_X11_octet : Cond.instanceMethod yX11_octet ∈ lw_ok := lw_i6 235 rfl rfl
theorem wL_X11_octet : Cond.selects RX11 yX11_octet yX11_octet ∈ lw_ok := lw_i6 236 rfl rfl
theorem wK_X11_octet : Cond.code yX11_octet cX11_octet 2 (some .int) ∈ lw_ok := lw_i6 237 rfl rfl
theorem wM_DomainHouseLaw_162 : Cond.methodLink "DomainHouseLaw" 162 yX11_letter ∈ lw_ok := lw_i6 238 rfl rfl
theorem wV_X11_letter : Cond.instanceMethod yX11_letter ∈ lw_ok := lw_i6 239 rfl rfl
theorem wL_X11_letter : Cond.selects RX11 yX11_letter yX11_letter ∈ lw_ok := lw_i7 0 rfl rfl
theorem wK_X11_letter : Cond.code yX11_letter cX11_letter 3 (some .int) ∈ lw_ok := lw_i7 1 rfl rfl
theorem wM_X11_364 : Cond.methodLink RX11 364 yX2_send ∈ lw_ok := lw_i7 2 rfl rfl
theorem wV_X2_send : Cond.instanceMethod yX2_send ∈ lw_ok := lw_i7 3 rfl rfl
theorem wL_X2_send : Cond.selects RX2 yX2_send yX2_send ∈ lw_ok := lw_i7 4 rfl rfl
theorem wK_X2_send : Cond.code yX2_send cX2_send 4 (some .int) ∈ lw_ok := lw_i7 5 rfl rfl
theorem wM_X2_83 : Cond.methodLink RX2 83 yX2_travel ∈ lw_ok := lw_i7 6 rfl rfl
theorem wV_X2_travel : Cond.instanceMethod yX2_travel ∈ lw_ok := lw_i7 8 rfl rfl
theorem wK_X2_travel : Cond.code yX2_travel cX2_travel 6 (some .int) ∈ lw_ok := lw_i7 9 rfl rfl
theorem wM_X2_80 : Cond.methodLink RX2 80 yX2_partnerFor ∈ lw_ok := lw_i7 10 rfl rfl
theorem wV_X2_partnerFor : Cond.instanceMethod yX2_partnerFor ∈ lw_ok := lw_i7 12 rfl rfl
theorem wK_X2_partnerFor : Cond.code yX2_partnerFor cX2_partnerFor 5 (some .int) ∈ lw_ok := lw_i7 13 rfl rfl
theorem wM_X2_60 : Cond.methodLink RX2 60 yX2_tieFor ∈ lw_ok := lw_i7 14 rfl rfl
theorem wV_X2_tieFor : Cond.instanceMethod yX2_tieFor ∈ lw_ok := lw_i7 16 rfl rfl
theorem wK_X2_tieFor : Cond.code yX2_tieFor cX2_tieFor 8 (some .int) ∈ lw_ok := lw_i7 17 rfl rfl
theorem wG_X2_41 : Cond.constant RX2 41 (-99999999) ∈ lw_ok := lw_i7 18 rfl rfl
theorem wM_X2_68 : Cond.methodLink RX2 68 yX9_sideOf ∈ lw_ok := lw_i7 19 rfl rfl
theorem wM_X2_74 : Cond.methodLink RX2 74 yX9_end ∈ lw_ok := lw_i7 20 rfl rfl
theorem wM_X2_86 : Cond.methodLink RX2 86 ⟨"java/lang/System", "arraycopy", "(Ljava/lang/Object;ILjava/lang/Object;II)V"⟩ ∈ lw_ok := lw_i7 21 rfl rfl
theorem wM_DomainHouseLaw_166 : Cond.methodLink "DomainHouseLaw" 166 yX11_led ∈ lw_ok := lw_i7 22 rfl rfl
theorem wV_X11_led : Cond.instanceMethod yX11_led ∈ lw_ok := lw_i7 23 rfl rfl
theorem wL_X11_led : Cond.selects RX11 yX11_led yX11_led ∈ lw_ok := lw_i7 24 rfl rfl
theorem wK_X11_led : Cond.code yX11_led cX11_led 2 (some .int) ∈ lw_ok := lw_i7 25 rfl rfl
theorem wM_DomainHouseLaw_170 : Cond.methodLink "DomainHouseLaw" 170 yX11_demand ∈ lw_ok := lw_i7 26 rfl rfl
theorem wV_X11_demand : Cond.instanceMethod yX11_demand ∈ lw_ok := lw_i7 27 rfl rfl
theorem wL_X11_demand : Cond.selects RX11 yX11_demand yX11_demand ∈ lw_ok := lw_i7 28 rfl rfl
theorem wK_X11_demand : Cond.code yX11_demand cX11_demand 4 (some .int) ∈ lw_ok := lw_i7 29 rfl rfl
theorem wM_X11_376 : Cond.methodLink RX11 376 yX2_addDemand ∈ lw_ok := lw_i7 30 rfl rfl
theorem wV_X2_addDemand : Cond.instanceMethod yX2_addDemand ∈ lw_ok := lw_i7 31 rfl rfl
theorem wL_X2_addDemand : Cond.selects RX2 yX2_addDemand yX2_addDemand ∈ lw_ok := lw_i7 32 rfl rfl
theorem wK_X2_addDemand : Cond.code yX2_addDemand cX2_addDemand 4 (some .int) ∈ lw_ok := lw_i7 33 rfl rfl
theorem wM_DomainHouseLaw_174 : Cond.methodLink "DomainHouseLaw" 174 yX11_load ∈ lw_ok := lw_i7 34 rfl rfl
theorem wV_X11_load : Cond.instanceMethod yX11_load ∈ lw_ok := lw_i7 35 rfl rfl
theorem wL_X11_load : Cond.selects RX11 yX11_load yX11_load ∈ lw_ok := lw_i7 36 rfl rfl
theorem wK_X11_load : Cond.code yX11_load cX11_load 4 (some .int) ∈ lw_ok := lw_i7 37 rfl rfl
theorem wM_X11_379 : Cond.methodLink RX11 379 yX2_unitsOver ∈ lw_ok := lw_i7 38 rfl rfl
theorem wV_X2_unitsOver : Cond.instanceMethod yX2_unitsOver ∈ lw_ok := lw_i7 39 rfl rfl
theorem wL_X2_unitsOver : Cond.selects RX2 yX2_unitsOver yX2_unitsOver ∈ lw_ok := lw_i7 40 rfl rfl
theorem wK_X2_unitsOver : Cond.code yX2_unitsOver cX2_unitsOver 6 (some .int) ∈ lw_ok := lw_i7 41 rfl rfl
theorem wM_DomainHouseLaw_178 : Cond.methodLink "DomainHouseLaw" 178 yX11_units ∈ lw_ok := lw_i7 42 rfl rfl
theorem wV_X11_units : Cond.instanceMethod yX11_units ∈ lw_ok := lw_i7 43 rfl rfl
theorem wL_X11_units : Cond.selects RX11 yX11_units yX11_units ∈ lw_ok := lw_i7 44 rfl rfl
theorem wK_X11_units : Cond.code yX11_units cX11_units 2 (some .int) ∈ lw_ok := lw_i7 45 rfl rfl
theorem wM_X11_382 : Cond.methodLink RX11 382 yX2_unitsThat ∈ lw_ok := lw_i7 46 rfl rfl
theorem wV_X2_unitsThat : Cond.instanceMethod yX2_unitsThat ∈ lw_ok := lw_i7 47 rfl rfl
theorem wL_X2_unitsThat : Cond.selects RX2 yX2_unitsThat yX2_unitsThat ∈ lw_ok := lw_i7 48 rfl rfl
theorem wK_X2_unitsThat : Cond.code yX2_unitsThat cX2_unitsThat 4 (some .int) ∈ lw_ok := lw_i7 49 rfl rfl
theorem wM_DomainHouseLaw_182 : Cond.methodLink "DomainHouseLaw" 182 yX11_least ∈ lw_ok := lw_i7 50 rfl rfl
theorem wV_X11_least : Cond.instanceMethod yX11_least ∈ lw_ok := lw_i7 51 rfl rfl
theorem wL_X11_least : Cond.selects RX11 yX11_least yX11_least ∈ lw_ok := lw_i7 52 rfl rfl
theorem wK_X11_least : Cond.code yX11_least cX11_least 2 (some .int) ∈ lw_ok := lw_i7 53 rfl rfl
theorem wM_X11_385 : Cond.methodLink RX11 385 yX2_leastTable ∈ lw_ok := lw_i7 54 rfl rfl
theorem wV_X2_leastTable : Cond.instanceMethod yX2_leastTable ∈ lw_ok := lw_i7 55 rfl rfl
theorem wL_X2_leastTable : Cond.selects RX2 yX2_leastTable yX2_leastTable ∈ lw_ok := lw_i7 56 rfl rfl
theorem wK_X2_leastTable : Cond.code yX2_leastTable cX2_leastTable 3 (some .int) ∈ lw_ok := lw_i7 57 rfl rfl
theorem wM_X2_101 : Cond.methodLink RX2 101 yX2_leastBelow ∈ lw_ok := lw_i7 58 rfl rfl
theorem wV_X2_leastBelow : Cond.instanceMethod yX2_leastBelow ∈ lw_ok := lw_i7 60 rfl rfl
theorem wK_X2_leastBelow : Cond.code yX2_leastBelow cX2_leastBelow 6 (some .int) ∈ lw_ok := lw_i7 61 rfl rfl
theorem wM_X2_106 : Cond.methodLink RX2 106 yX2_isSplit ∈ lw_ok := lw_i7 62 rfl rfl
theorem wV_X2_isSplit : Cond.instanceMethod yX2_isSplit ∈ lw_ok := lw_i7 64 rfl rfl
theorem wK_X2_isSplit : Cond.code yX2_isSplit cX2_isSplit 7 (some .boolean) ∈ lw_ok := lw_i7 65 rfl rfl
theorem wM_X2_113 : Cond.methodLink RX2 113 yX10_maskOf ∈ lw_ok := lw_i7 66 rfl rfl
theorem wM_X2_110 : Cond.methodLink RX2 110 yX2_aimBit ∈ lw_ok := lw_i7 67 rfl rfl
theorem wS_X2_aimBit : Cond.static yX2_aimBit ∈ lw_ok := lw_i7 68 rfl rfl
theorem wK_X2_aimBit : Cond.code yX2_aimBit cX2_aimBit 1 (some .int) ∈ lw_ok := lw_i7 69 rfl rfl
theorem wG_X2_116 : Cond.constant RX2 116 (1048576) ∈ lw_ok := lw_i7 70 rfl rfl
theorem wG_X2_105 : Cond.constant RX2 105 (2097152) ∈ lw_ok := lw_i7 71 rfl rfl
theorem wM_DomainHouseLaw_186 : Cond.methodLink "DomainHouseLaw" 186 yX11_differ ∈ lw_ok := lw_i7 72 rfl rfl
theorem wV_X11_differ : Cond.instanceMethod yX11_differ ∈ lw_ok := lw_i7 73 rfl rfl
theorem wL_X11_differ : Cond.selects RX11 yX11_differ yX11_differ ∈ lw_ok := lw_i7 74 rfl rfl
theorem wK_X11_differ : Cond.code yX11_differ cX11_differ 3 (some .long) ∈ lw_ok := lw_i7 75 rfl rfl
theorem wM_X11_388 : Cond.methodLink RX11 388 yX2_unlikeAddresses ∈ lw_ok := lw_i7 76 rfl rfl
theorem wV_X2_unlikeAddresses : Cond.instanceMethod yX2_unlikeAddresses ∈ lw_ok := lw_i7 77 rfl rfl
theorem wL_X2_unlikeAddresses : Cond.selects RX2 yX2_unlikeAddresses yX2_unlikeAddresses ∈ lw_ok := lw_i7 78 rfl rfl
theorem wK_X2_unlikeAddresses : Cond.code yX2_unlikeAddresses cX2_unlikeAddresses 8 (some .long) ∈ lw_ok := lw_i7 79 rfl rfl
theorem wM_X2_117 : Cond.methodLink RX2 117 yX2_layBorders ∈ lw_ok := lw_i7 80 rfl rfl
theorem wV_X2_layBorders : Cond.instanceMethod yX2_layBorders ∈ lw_ok := lw_i7 82 rfl rfl
theorem wK_X2_layBorders : Cond.code yX2_layBorders cX2_layBorders 5 (some .int) ∈ lw_ok := lw_i7 83 rfl rfl
theorem wH_X2_121 : Cond.constantLong RX2 121 (4294967295) ∈ lw_ok := lw_i7 84 rfl rfl
theorem wM_X2_123 : Cond.methodLink RX2 123 yX2_insertBorder ∈ lw_ok := lw_i7 85 rfl rfl
theorem wV_X2_insertBorder : Cond.instanceMethod yX2_insertBorder ∈ lw_ok := lw_i7 87 rfl rfl
theorem wK_X2_insertBorder : Cond.code yX2_insertBorder cX2_insertBorder 5 none ∈ lw_ok := lw_i7 88 rfl rfl
theorem wH_X11_392 : Cond.constantLong RX11 392 (-1) ∈ lw_ok := lw_i7 89 rfl rfl
theorem wM_DomainHouseLaw_191 : Cond.methodLink "DomainHouseLaw" 191 yX11_clear ∈ lw_ok := lw_i7 90 rfl rfl
theorem wV_X11_clear : Cond.instanceMethod yX11_clear ∈ lw_ok := lw_i7 91 rfl rfl
theorem wL_X11_clear : Cond.selects RX11 yX11_clear yX11_clear ∈ lw_ok := lw_i7 92 rfl rfl
theorem wK_X11_clear : Cond.code yX11_clear cX11_clear 1 (some .int) ∈ lw_ok := lw_i7 93 rfl rfl
theorem wM_X11_394 : Cond.methodLink RX11 394 yX4_forget ∈ lw_ok := lw_i7 94 rfl rfl
theorem wV_X4_forget : Cond.instanceMethod yX4_forget ∈ lw_ok := lw_i7 95 rfl rfl
theorem wL_X4_forget : Cond.selects RX4 yX4_forget yX4_forget ∈ lw_ok := lw_i7 96 rfl rfl
theorem wK_X4_forget : Cond.code yX4_forget cX4_forget 3 (some .int) ∈ lw_ok := lw_i7 97 rfl rfl
theorem wM_DomainHouseLaw_195 : Cond.methodLink "DomainHouseLaw" 195 yX11_wish ∈ lw_ok := lw_i7 98 rfl rfl
theorem wV_X11_wish : Cond.instanceMethod yX11_wish ∈ lw_ok := lw_i7 99 rfl rfl
theorem wL_X11_wish : Cond.selects RX11 yX11_wish yX11_wish ∈ lw_ok := lw_i7 100 rfl rfl
theorem wK_X11_wish : Cond.code yX11_wish cX11_wish 1 (some .int) ∈ lw_ok := lw_i7 101 rfl rfl
theorem wM_X11_397 : Cond.methodLink RX11 397 yX4_isWish ∈ lw_ok := lw_i7 102 rfl rfl
theorem wS_X4_isWish : Cond.static yX4_isWish ∈ lw_ok := lw_i7 103 rfl rfl
theorem wK_X4_isWish : Cond.code yX4_isWish cX4_isWish 4 (some .boolean) ∈ lw_ok := lw_i7 104 rfl rfl
theorem wM_X11_401 : Cond.methodLink RX11 401 yX4_find ∈ lw_ok := lw_i7 105 rfl rfl
theorem wV_X4_find : Cond.instanceMethod yX4_find ∈ lw_ok := lw_i7 106 rfl rfl
theorem wL_X4_find : Cond.selects RX4 yX4_find yX4_find ∈ lw_ok := lw_i7 107 rfl rfl
theorem wK_X4_find : Cond.code yX4_find cX4_find 9 (some .int) ∈ lw_ok := lw_i7 108 rfl rfl
theorem wM_X11_408 : Cond.methodLink RX11 408 yX4_addWish ∈ lw_ok := lw_i7 109 rfl rfl
theorem wV_X4_addWish : Cond.instanceMethod yX4_addWish ∈ lw_ok := lw_i7 110 rfl rfl
theorem wL_X4_addWish : Cond.selects RX4 yX4_addWish yX4_addWish ∈ lw_ok := lw_i7 111 rfl rfl
theorem wK_X4_addWish : Cond.code yX4_addWish cX4_addWish 5 (some .int) ∈ lw_ok := lw_i7 112 rfl rfl
theorem wM_X4_46 : Cond.methodLink RX4 46 ⟨"java/lang/System", "arraycopy", "(Ljava/lang/Object;ILjava/lang/Object;II)V"⟩ ∈ lw_ok := lw_i7 113 rfl rfl
theorem wM_DomainHouseLaw_199 : Cond.methodLink "DomainHouseLaw" 199 yX11_rests ∈ lw_ok := lw_i7 114 rfl rfl
theorem wV_X11_rests : Cond.instanceMethod yX11_rests ∈ lw_ok := lw_i7 115 rfl rfl
theorem wL_X11_rests : Cond.selects RX11 yX11_rests yX11_rests ∈ lw_ok := lw_i7 116 rfl rfl
theorem wK_X11_rests : Cond.code yX11_rests cX11_rests 1 (some .int) ∈ lw_ok := lw_i7 117 rfl rfl
theorem wM_X11_411 : Cond.methodLink RX11 411 yX4_findRests ∈ lw_ok := lw_i7 118 rfl rfl
theorem wV_X4_findRests : Cond.instanceMethod yX4_findRests ∈ lw_ok := lw_i7 119 rfl rfl
theorem wL_X4_findRests : Cond.selects RX4 yX4_findRests yX4_findRests ∈ lw_ok := lw_i7 120 rfl rfl
theorem wK_X4_findRests : Cond.code yX4_findRests cX4_findRests 2 none ∈ lw_ok := lw_i7 121 rfl rfl
theorem wM_X4_79 : Cond.methodLink RX4 79 yX4_prepare ∈ lw_ok := lw_i7 122 rfl rfl
theorem wV_X4_prepare : Cond.instanceMethod yX4_prepare ∈ lw_ok := lw_i7 124 rfl rfl
theorem wK_X4_prepare : Cond.code yX4_prepare cX4_prepare 3 none ∈ lw_ok := lw_i7 125 rfl rfl
theorem wM_X4_63 : Cond.methodLink RX4 63 yX4_need ∈ lw_ok := lw_i7 126 rfl rfl
theorem wV_X4_need : Cond.instanceMethod yX4_need ∈ lw_ok := lw_i7 128 rfl rfl
theorem wK_X4_need : Cond.code yX4_need cX4_need 3 none ∈ lw_ok := lw_i7 129 rfl rfl
theorem wM_X4_67 : Cond.methodLink RX4 67 yX4_find ∈ lw_ok := lw_i7 130 rfl rfl
theorem wM_X4_85 : Cond.methodLink RX4 85 yX4_unfold ∈ lw_ok := lw_i7 131 rfl rfl
theorem wV_X4_unfold : Cond.instanceMethod yX4_unfold ∈ lw_ok := lw_i7 133 rfl rfl
theorem wK_X4_unfold : Cond.code yX4_unfold cX4_unfold 3 none ∈ lw_ok := lw_i7 134 rfl rfl
theorem wM_X4_75 : Cond.methodLink RX4 75 yX4_figure ∈ lw_ok := lw_i7 135 rfl rfl
theorem wV_X4_figure : Cond.instanceMethod yX4_figure ∈ lw_ok := lw_i7 137 rfl rfl
theorem wK_X4_figure : Cond.code yX4_figure cX4_figure 4 (some .int) ∈ lw_ok := lw_i7 138 rfl rfl
theorem wM_X4_88 : Cond.methodLink RX4 88 yX4_isRest ∈ lw_ok := lw_i7 139 rfl rfl
theorem wV_X4_isRest : Cond.instanceMethod yX4_isRest ∈ lw_ok := lw_i7 141 rfl rfl
theorem wK_X4_isRest : Cond.code yX4_isRest cX4_isRest 2 (some .boolean) ∈ lw_ok := lw_i7 142 rfl rfl
theorem wM_X4_71 : Cond.methodLink RX4 71 yX4_actOf ∈ lw_ok := lw_i7 143 rfl rfl
theorem wV_X4_actOf : Cond.instanceMethod yX4_actOf ∈ lw_ok := lw_i7 145 rfl rfl
theorem wK_X4_actOf : Cond.code yX4_actOf cX4_actOf 5 (some .int) ∈ lw_ok := lw_i7 146 rfl rfl
theorem wM_X4_92 : Cond.methodLink RX4 92 yX4_keepRest ∈ lw_ok := lw_i7 147 rfl rfl
theorem wV_X4_keepRest : Cond.instanceMethod yX4_keepRest ∈ lw_ok := lw_i7 149 rfl rfl
theorem wK_X4_keepRest : Cond.code yX4_keepRest cX4_keepRest 2 none ∈ lw_ok := lw_i7 150 rfl rfl
theorem wM_X4_98 : Cond.methodLink RX4 98 ⟨"java/util/Arrays", "copyOf", "([II)[I"⟩ ∈ lw_ok := lw_i7 151 rfl rfl
theorem wM_X4_95 : Cond.methodLink RX4 95 yX4_countUp ∈ lw_ok := lw_i7 152 rfl rfl
theorem wV_X4_countUp : Cond.instanceMethod yX4_countUp ∈ lw_ok := lw_i7 154 rfl rfl
theorem wK_X4_countUp : Cond.code yX4_countUp cX4_countUp 2 none ∈ lw_ok := lw_i7 155 rfl rfl
theorem wM_DomainHouseLaw_203 : Cond.methodLink "DomainHouseLaw" 203 yX11_rest ∈ lw_ok := lw_i7 156 rfl rfl
theorem wV_X11_rest : Cond.instanceMethod yX11_rest ∈ lw_ok := lw_i7 157 rfl rfl
theorem wL_X11_rest : Cond.selects RX11 yX11_rest yX11_rest ∈ lw_ok := lw_i7 158 rfl rfl
theorem wK_X11_rest : Cond.code yX11_rest cX11_rest 3 (some .int) ∈ lw_ok := lw_i7 159 rfl rfl
theorem wM_X11_417 : Cond.methodLink RX11 417 yX4_wayInRest ∈ lw_ok := lw_i7 160 rfl rfl
theorem wV_X4_wayInRest : Cond.instanceMethod yX4_wayInRest ∈ lw_ok := lw_i7 161 rfl rfl
theorem wL_X4_wayInRest : Cond.selects RX4 yX4_wayInRest yX4_wayInRest ∈ lw_ok := lw_i7 162 rfl rfl
theorem wK_X4_wayInRest : Cond.code yX4_wayInRest cX4_wayInRest 4 (some .int) ∈ lw_ok := lw_i7 163 rfl rfl
theorem wM_DomainHouseLaw_207 : Cond.methodLink "DomainHouseLaw" 207 yX11_tries ∈ lw_ok := lw_i7 164 rfl rfl
theorem wV_X11_tries : Cond.instanceMethod yX11_tries ∈ lw_ok := lw_i7 165 rfl rfl
theorem wL_X11_tries : Cond.selects RX11 yX11_tries yX11_tries ∈ lw_ok := lw_i7 166 rfl rfl
theorem wK_X11_tries : Cond.code yX11_tries cX11_tries 2 (some .int) ∈ lw_ok := lw_i7 167 rfl rfl
theorem wM_X11_420 : Cond.methodLink RX11 420 yX4_explore ∈ lw_ok := lw_i7 168 rfl rfl
theorem wV_X4_explore : Cond.instanceMethod yX4_explore ∈ lw_ok := lw_i7 169 rfl rfl
theorem wL_X4_explore : Cond.selects RX4 yX4_explore yX4_explore ∈ lw_ok := lw_i7 170 rfl rfl
theorem wK_X4_explore : Cond.code yX4_explore cX4_explore 3 none ∈ lw_ok := lw_i7 171 rfl rfl
theorem wM_X4_104 : Cond.methodLink RX4 104 yX4_makeRoom ∈ lw_ok := lw_i7 172 rfl rfl
theorem wV_X4_makeRoom : Cond.instanceMethod yX4_makeRoom ∈ lw_ok := lw_i7 174 rfl rfl
theorem wK_X4_makeRoom : Cond.code yX4_makeRoom cX4_makeRoom 2 none ∈ lw_ok := lw_i7 175 rfl rfl
theorem wM_X4_114 : Cond.methodLink RX4 114 ⟨"java/lang/Math", "max", "(II)I"⟩ ∈ lw_ok := lw_i7 176 rfl rfl
theorem wM_X4_119 : Cond.methodLink RX4 119 ⟨"java/util/Arrays", "fill", "([BB)V"⟩ ∈ lw_ok := lw_i7 179 rfl rfl
theorem wM_X4_107 : Cond.methodLink RX4 107 yX4_spread ∈ lw_ok := lw_i7 182 rfl rfl
theorem wV_X4_spread : Cond.instanceMethod yX4_spread ∈ lw_ok := lw_i7 184 rfl rfl
theorem wK_X4_spread : Cond.code yX4_spread cX4_spread 5 (some .int) ∈ lw_ok := lw_i7 185 rfl rfl
theorem wG_X4_123 : Cond.constant RX4 123 (-99999999) ∈ lw_ok := lw_i7 186 rfl rfl
theorem wM_X4_124 : Cond.methodLink RX4 124 yX4_addNeighbours ∈ lw_ok := lw_i7 187 rfl rfl
theorem wV_X4_addNeighbours : Cond.instanceMethod yX4_addNeighbours ∈ lw_ok := lw_i7 189 rfl rfl
theorem wK_X4_addNeighbours : Cond.code yX4_addNeighbours cX4_addNeighbours 6 (some .int) ∈ lw_ok := lw_i7 190 rfl rfl
theorem wM_X4_111 : Cond.methodLink RX4 111 yX4_leadBack ∈ lw_ok := lw_i7 191 rfl rfl
theorem wV_X4_leadBack : Cond.instanceMethod yX4_leadBack ∈ lw_ok := lw_i7 193 rfl rfl
theorem wK_X4_leadBack : Cond.code yX4_leadBack cX4_leadBack 3 (some .int) ∈ lw_ok := lw_i7 194 rfl rfl
theorem wM_X4_127 : Cond.methodLink RX4 127 yX4_addSources ∈ lw_ok := lw_i7 195 rfl rfl
theorem wV_X4_addSources : Cond.instanceMethod yX4_addSources ∈ lw_ok := lw_i7 197 rfl rfl
theorem wK_X4_addSources : Cond.code yX4_addSources cX4_addSources 7 (some .int) ∈ lw_ok := lw_i7 198 rfl rfl
theorem wM_DomainHouseLaw_211 : Cond.methodLink "DomainHouseLaw" 211 yX11_count ∈ lw_ok := lw_i7 199 rfl rfl
theorem wV_X11_count : Cond.instanceMethod yX11_count ∈ lw_ok := lw_i7 200 rfl rfl
theorem wL_X11_count : Cond.selects RX11 yX11_count yX11_count ∈ lw_ok := lw_i7 201 rfl rfl
theorem wK_X11_count : Cond.code yX11_count cX11_count 2 (some .int) ∈ lw_ok := lw_i7 202 rfl rfl
theorem wM_DomainHouseLaw_17 : Cond.methodLink "DomainHouseLaw" 17 yX12_feed ∈ lw_ok := lw_i7 203 rfl rfl
theorem wV_X12_feed : Cond.instanceMethod yX12_feed ∈ lw_ok := lw_i7 204 rfl rfl
theorem wL_X12_feed : Cond.selects RX12 yX12_feed yX12_feed ∈ lw_ok := lw_i7 205 rfl rfl
theorem wK_X12_feed : Cond.code yX12_feed cX12_feed 8 (some .int) ∈ lw_ok := lw_i7 206 rfl rfl
theorem wM_DomainHouseLaw_22 : Cond.methodLink "DomainHouseLaw" 22 yX12_cut ∈ lw_ok := lw_i7 207 rfl rfl
theorem wV_X12_cut : Cond.instanceMethod yX12_cut ∈ lw_ok := lw_i7 208 rfl rfl
theorem wL_X12_cut : Cond.selects RX12 yX12_cut yX12_cut ∈ lw_ok := lw_i7 209 rfl rfl
theorem wK_X12_cut : Cond.code yX12_cut cX12_cut 3 (some .int) ∈ lw_ok := lw_i7 210 rfl rfl
theorem wM_DomainHouseLaw_27 : Cond.methodLink "DomainHouseLaw" 27 yX12_prefix ∈ lw_ok := lw_i7 211 rfl rfl
theorem wV_X12_prefix : Cond.instanceMethod yX12_prefix ∈ lw_ok := lw_i7 212 rfl rfl
theorem wL_X12_prefix : Cond.selects RX12 yX12_prefix yX12_prefix ∈ lw_ok := lw_i7 213 rfl rfl
theorem wK_X12_prefix : Cond.code yX12_prefix cX12_prefix 3 (some .int) ∈ lw_ok := lw_i7 214 rfl rfl
theorem wM_X12_18 : Cond.methodLink RX12 18 yX12_in ∈ lw_ok := lw_i7 215 rfl rfl
theorem wS_X12_in : Cond.static yX12_in ∈ lw_ok := lw_i7 216 rfl rfl
theorem wK_X12_in : Cond.code yX12_in cX12_in 3 (some .boolean) ∈ lw_ok := lw_i7 217 rfl rfl
theorem wM_X12_11 : Cond.methodLink RX12 11 yX12_mask ∈ lw_ok := lw_i7 218 rfl rfl
theorem wS_X12_mask : Cond.static yX12_mask ∈ lw_ok := lw_i7 219 rfl rfl
theorem wK_X12_mask : Cond.code yX12_mask cX12_mask 1 (some .int) ∈ lw_ok := lw_i7 220 rfl rfl
theorem wM_X12_30 : Cond.methodLink RX12 30 yX12_prefixOf ∈ lw_ok := lw_i7 221 rfl rfl
theorem wV_X12_prefixOf : Cond.instanceMethod yX12_prefixOf ∈ lw_ok := lw_i7 223 rfl rfl
theorem wN_X12 : Cond.instantiable RX12 126 ∈ lw_ok := lw_i7 224 rfl rfl
theorem wK_X12_prefixOf : Cond.code yX12_prefixOf cX12_prefixOf 4 (some .int) ∈ lw_ok := lw_i7 225 rfl rfl
theorem wG_X12_29 : Cond.constant RX12 29 (-99999999) ∈ lw_ok := lw_i7 226 rfl rfl
theorem wM_DomainHouseLaw_32 : Cond.methodLink "DomainHouseLaw" 32 yX12_domain ∈ lw_ok := lw_i7 227 rfl rfl
theorem wV_X12_domain : Cond.instanceMethod yX12_domain ∈ lw_ok := lw_i7 228 rfl rfl
theorem wL_X12_domain : Cond.selects RX12 yX12_domain yX12_domain ∈ lw_ok := lw_i7 229 rfl rfl
theorem wK_X12_domain : Cond.code yX12_domain cX12_domain 1 (some .int) ∈ lw_ok := lw_i7 230 rfl rfl
theorem wM_DomainHouseLaw_37 : Cond.methodLink "DomainHouseLaw" 37 yX12_tie ∈ lw_ok := lw_i7 231 rfl rfl
theorem wV_X12_tie : Cond.instanceMethod yX12_tie ∈ lw_ok := lw_i7 232 rfl rfl
theorem wL_X12_tie : Cond.selects RX12 yX12_tie yX12_tie ∈ lw_ok := lw_i7 233 rfl rfl
theorem wK_X12_tie : Cond.code yX12_tie cX12_tie 5 (some .int) ∈ lw_ok := lw_i7 234 rfl rfl
theorem wM_X12_49 : Cond.methodLink RX12 49 yX12_isDomain ∈ lw_ok := lw_i7 235 rfl rfl
theorem wV_X12_isDomain : Cond.instanceMethod yX12_isDomain ∈ lw_ok := lw_i7 237 rfl rfl
theorem wK_X12_isDomain : Cond.code yX12_isDomain cX12_isDomain 2 (some .boolean) ∈ lw_ok := lw_i7 238 rfl rfl
theorem wM_X12_43 : Cond.methodLink RX12 43 yX12_tieOf ∈ lw_ok := lw_i7 239 rfl rfl
theorem wV_X12_tieOf : Cond.instanceMethod yX12_tieOf ∈ lw_ok := lw_i8 1 rfl rfl
theorem wK_X12_tieOf : Cond.code yX12_tieOf cX12_tieOf 4 (some .int) ∈ lw_ok := lw_i8 2 rfl rfl
theorem wM_DomainHouseLaw_41 : Cond.methodLink "DomainHouseLaw" 41 yX12_pace ∈ lw_ok := lw_i8 3 rfl rfl
theorem wV_X12_pace : Cond.instanceMethod yX12_pace ∈ lw_ok := lw_i8 4 rfl rfl
theorem wL_X12_pace : Cond.selects RX12 yX12_pace yX12_pace ∈ lw_ok := lw_i8 5 rfl rfl
theorem wK_X12_pace : Cond.code yX12_pace cX12_pace 4 (some .int) ∈ lw_ok := lw_i8 6 rfl rfl
theorem wM_X12_66 : Cond.methodLink RX12 66 yX12_isTie ∈ lw_ok := lw_i8 7 rfl rfl
theorem wV_X12_isTie : Cond.instanceMethod yX12_isTie ∈ lw_ok := lw_i8 9 rfl rfl
theorem wK_X12_isTie : Cond.code yX12_isTie cX12_isTie 2 (some .boolean) ∈ lw_ok := lw_i8 10 rfl rfl
theorem wM_DomainHouseLaw_50 : Cond.methodLink "DomainHouseLaw" 50 yX12_cone ∈ lw_ok := lw_i8 11 rfl rfl
theorem wV_X12_cone : Cond.instanceMethod yX12_cone ∈ lw_ok := lw_i8 12 rfl rfl
theorem wL_X12_cone : Cond.selects RX12 yX12_cone yX12_cone ∈ lw_ok := lw_i8 13 rfl rfl
theorem wK_X12_cone : Cond.code yX12_cone cX12_cone 6 (some .int) ∈ lw_ok := lw_i8 14 rfl rfl
theorem wM_DomainHouseLaw_54 : Cond.methodLink "DomainHouseLaw" 54 yX12_ring ∈ lw_ok := lw_i8 15 rfl rfl
theorem wV_X12_ring : Cond.instanceMethod yX12_ring ∈ lw_ok := lw_i8 16 rfl rfl
theorem wL_X12_ring : Cond.selects RX12 yX12_ring yX12_ring ∈ lw_ok := lw_i8 17 rfl rfl
theorem wK_X12_ring : Cond.code yX12_ring cX12_ring 8 (some .int) ∈ lw_ok := lw_i8 18 rfl rfl
theorem wM_X12_75 : Cond.methodLink RX12 75 yX12_provides ∈ lw_ok := lw_i8 19 rfl rfl
theorem wV_X12_provides : Cond.instanceMethod yX12_provides ∈ lw_ok := lw_i8 21 rfl rfl
theorem wK_X12_provides : Cond.code yX12_provides cX12_provides 4 (some .boolean) ∈ lw_ok := lw_i8 22 rfl rfl
theorem wM_DomainHouseLaw_58 : Cond.methodLink "DomainHouseLaw" 58 yX12_walk ∈ lw_ok := lw_i8 23 rfl rfl
theorem wV_X12_walk : Cond.instanceMethod yX12_walk ∈ lw_ok := lw_i8 24 rfl rfl
theorem wL_X12_walk : Cond.selects RX12 yX12_walk yX12_walk ∈ lw_ok := lw_i8 25 rfl rfl
theorem wK_X12_walk : Cond.code yX12_walk cX12_walk 2 (some .int) ∈ lw_ok := lw_i8 26 rfl rfl
theorem wM_DomainHouseLaw_62 : Cond.methodLink "DomainHouseLaw" 62 yX12_letWay ∈ lw_ok := lw_i8 27 rfl rfl
theorem wV_X12_letWay : Cond.instanceMethod yX12_letWay ∈ lw_ok := lw_i8 28 rfl rfl
theorem wL_X12_letWay : Cond.selects RX12 yX12_letWay yX12_letWay ∈ lw_ok := lw_i8 29 rfl rfl
theorem wK_X12_letWay : Cond.code yX12_letWay cX12_letWay 5 (some .int) ∈ lw_ok := lw_i8 30 rfl rfl
theorem wM_DomainHouseLaw_66 : Cond.methodLink "DomainHouseLaw" 66 yX12_today ∈ lw_ok := lw_i8 31 rfl rfl
theorem wV_X12_today : Cond.instanceMethod yX12_today ∈ lw_ok := lw_i8 32 rfl rfl
theorem wL_X12_today : Cond.selects RX12 yX12_today yX12_today ∈ lw_ok := lw_i8 33 rfl rfl
theorem wK_X12_today : Cond.code yX12_today cX12_today 3 (some .int) ∈ lw_ok := lw_i8 34 rfl rfl
theorem wM_X12_88 : Cond.methodLink RX12 88 yX12_rethink ∈ lw_ok := lw_i8 35 rfl rfl
theorem wV_X12_rethink : Cond.instanceMethod yX12_rethink ∈ lw_ok := lw_i8 37 rfl rfl
theorem wK_X12_rethink : Cond.code yX12_rethink cX12_rethink 3 none ∈ lw_ok := lw_i8 38 rfl rfl
theorem wM_X12_600 : Cond.methodLink RX12 600 yX12_lookAll ∈ lw_ok := lw_i8 39 rfl rfl
theorem wV_X12_lookAll : Cond.instanceMethod yX12_lookAll ∈ lw_ok := lw_i8 41 rfl rfl
theorem wK_X12_lookAll : Cond.code yX12_lookAll cX12_lookAll 3 none ∈ lw_ok := lw_i8 42 rfl rfl
theorem wM_X12_597 : Cond.methodLink RX12 597 yX12_look ∈ lw_ok := lw_i8 43 rfl rfl
theorem wV_X12_look : Cond.instanceMethod yX12_look ∈ lw_ok := lw_i8 45 rfl rfl
theorem wK_X12_look : Cond.code yX12_look cX12_look 6 none ∈ lw_ok := lw_i8 46 rfl rfl
theorem wM_X12_581 : Cond.methodLink RX12 581 yX12_pick ∈ lw_ok := lw_i8 47 rfl rfl
theorem wV_X12_pick : Cond.instanceMethod yX12_pick ∈ lw_ok := lw_i8 49 rfl rfl
theorem wK_X12_pick : Cond.code yX12_pick cX12_pick 11 (some .int) ∈ lw_ok := lw_i8 50 rfl rfl
theorem wM_X12_572 : Cond.methodLink RX12 572 yX12_candidates ∈ lw_ok := lw_i8 51 rfl rfl
theorem wV_X12_candidates : Cond.instanceMethod yX12_candidates ∈ lw_ok := lw_i8 53 rfl rfl
theorem wK_X12_candidates : Cond.code yX12_candidates cX12_candidates 4 none ∈ lw_ok := lw_i8 54 rfl rfl
theorem wM_X12_562 : Cond.methodLink RX12 562 yX12_isAt ∈ lw_ok := lw_i8 55 rfl rfl
theorem wV_X12_isAt : Cond.instanceMethod yX12_isAt ∈ lw_ok := lw_i8 57 rfl rfl
theorem wK_X12_isAt : Cond.code yX12_isAt cX12_isAt 3 (some .boolean) ∈ lw_ok := lw_i8 58 rfl rfl
theorem wM_X12_565 : Cond.methodLink RX12 565 yX12_candidate ∈ lw_ok := lw_i8 59 rfl rfl
theorem wV_X12_candidate : Cond.instanceMethod yX12_candidate ∈ lw_ok := lw_i8 61 rfl rfl
theorem wK_X12_candidate : Cond.code yX12_candidate cX12_candidate 6 (some .int) ∈ lw_ok := lw_i8 62 rfl rfl
theorem wM_X12_542 : Cond.methodLink RX12 542 yX12_sideOf ∈ lw_ok := lw_i8 63 rfl rfl
theorem wV_X12_sideOf : Cond.instanceMethod yX12_sideOf ∈ lw_ok := lw_i8 65 rfl rfl
theorem wK_X12_sideOf : Cond.code yX12_sideOf cX12_sideOf 3 (some .int) ∈ lw_ok := lw_i8 66 rfl rfl
theorem wM_X12_539 : Cond.methodLink RX12 539 yX12_nothing ∈ lw_ok := lw_i8 67 rfl rfl
theorem wV_X12_nothing : Cond.instanceMethod yX12_nothing ∈ lw_ok := lw_i8 69 rfl rfl
theorem wK_X12_nothing : Cond.code yX12_nothing cX12_nothing 2 none ∈ lw_ok := lw_i8 70 rfl rfl
theorem wM_X12_545 : Cond.methodLink RX12 545 yX12_slot ∈ lw_ok := lw_i8 71 rfl rfl
theorem wS_X12_slot : Cond.static yX12_slot ∈ lw_ok := lw_i8 72 rfl rfl
theorem wK_X12_slot : Cond.code yX12_slot cX12_slot 3 (some .int) ∈ lw_ok := lw_i8 73 rfl rfl
theorem wM_X12_151 : Cond.methodLink RX12 151 yX12_isThere ∈ lw_ok := lw_i8 74 rfl rfl
theorem wV_X12_isThere : Cond.instanceMethod yX12_isThere ∈ lw_ok := lw_i8 76 rfl rfl
theorem wK_X12_isThere : Cond.code yX12_isThere cX12_isThere 2 (some .boolean) ∈ lw_ok := lw_i8 77 rfl rfl
theorem wM_X12_556 : Cond.methodLink RX12 556 yX12_isIn ∈ lw_ok := lw_i8 78 rfl rfl
theorem wV_X12_isIn : Cond.instanceMethod yX12_isIn ∈ lw_ok := lw_i8 80 rfl rfl
theorem wK_X12_isIn : Cond.code yX12_isIn cX12_isIn 5 (some .boolean) ∈ lw_ok := lw_i8 81 rfl rfl
theorem wM_X12_559 : Cond.methodLink RX12 559 yX12_copy ∈ lw_ok := lw_i8 82 rfl rfl
theorem wV_X12_copy : Cond.instanceMethod yX12_copy ∈ lw_ok := lw_i8 84 rfl rfl
theorem wK_X12_copy : Cond.code yX12_copy cX12_copy 4 none ∈ lw_ok := lw_i8 85 rfl rfl
theorem wM_X12_553 : Cond.methodLink RX12 553 yX12_partnerOf ∈ lw_ok := lw_i8 86 rfl rfl
theorem wV_X12_partnerOf : Cond.instanceMethod yX12_partnerOf ∈ lw_ok := lw_i8 88 rfl rfl
theorem wK_X12_partnerOf : Cond.code yX12_partnerOf cX12_partnerOf 3 (some .int) ∈ lw_ok := lw_i8 89 rfl rfl
theorem wM_X12_414 : Cond.methodLink RX12 414 yX12_through ∈ lw_ok := lw_i8 90 rfl rfl
theorem wV_X12_through : Cond.instanceMethod yX12_through ∈ lw_ok := lw_i8 92 rfl rfl
theorem wK_X12_through : Cond.code yX12_through cX12_through 14 (some .boolean) ∈ lw_ok := lw_i8 93 rfl rfl
theorem wM_X12_397 : Cond.methodLink RX12 397 yX12_isSo ∈ lw_ok := lw_i8 94 rfl rfl
theorem wV_X12_isSo : Cond.instanceMethod yX12_isSo ∈ lw_ok := lw_i8 96 rfl rfl
theorem wK_X12_isSo : Cond.code yX12_isSo cX12_isSo 10 (some .boolean) ∈ lw_ok := lw_i8 97 rfl rfl
theorem wM_X12_142 : Cond.methodLink RX12 142 yX12_holds ∈ lw_ok := lw_i8 98 rfl rfl
theorem wS_X12_holds : Cond.static yX12_holds ∈ lw_ok := lw_i8 99 rfl rfl
theorem wK_X12_holds : Cond.code yX12_holds cX12_holds 3 (some .boolean) ∈ lw_ok := lw_i8 100 rfl rfl
theorem wM_X12_379 : Cond.methodLink RX12 379 yX12_waysMatch ∈ lw_ok := lw_i8 101 rfl rfl
theorem wV_X12_waysMatch : Cond.instanceMethod yX12_waysMatch ∈ lw_ok := lw_i8 103 rfl rfl
theorem wK_X12_waysMatch : Cond.code yX12_waysMatch cX12_waysMatch 11 (some .boolean) ∈ lw_ok := lw_i8 104 rfl rfl
theorem wM_X12_154 : Cond.methodLink RX12 154 yX12_marked ∈ lw_ok := lw_i8 105 rfl rfl
theorem wV_X12_marked : Cond.instanceMethod yX12_marked ∈ lw_ok := lw_i8 107 rfl rfl
theorem wK_X12_marked : Cond.code yX12_marked cX12_marked 5 (some .boolean) ∈ lw_ok := lw_i8 108 rfl rfl
theorem wM_X12_382 : Cond.methodLink RX12 382 yX12_tieWord ∈ lw_ok := lw_i8 109 rfl rfl
theorem wV_X12_tieWord : Cond.instanceMethod yX12_tieWord ∈ lw_ok := lw_i8 111 rfl rfl
theorem wK_X12_tieWord : Cond.code yX12_tieWord cX12_tieWord 4 (some .int) ∈ lw_ok := lw_i8 112 rfl rfl
theorem wM_X12_385 : Cond.methodLink RX12 385 yX12_related ∈ lw_ok := lw_i8 113 rfl rfl
theorem wV_X12_related : Cond.instanceMethod yX12_related ∈ lw_ok := lw_i8 115 rfl rfl
theorem wK_X12_related : Cond.code yX12_related cX12_related 4 (some .boolean) ∈ lw_ok := lw_i8 116 rfl rfl
theorem wM_X12_145 : Cond.methodLink RX12 145 yX12_judged ∈ lw_ok := lw_i8 117 rfl rfl
theorem wV_X12_judged : Cond.instanceMethod yX12_judged ∈ lw_ok := lw_i8 119 rfl rfl
theorem wK_X12_judged : Cond.code yX12_judged cX12_judged 5 (some .int) ∈ lw_ok := lw_i8 120 rfl rfl
theorem wM_X12_135 : Cond.methodLink RX12 135 yX12_judgedAnew ∈ lw_ok := lw_i8 121 rfl rfl
theorem wV_X12_judgedAnew : Cond.instanceMethod yX12_judgedAnew ∈ lw_ok := lw_i8 123 rfl rfl
theorem wK_X12_judgedAnew : Cond.code yX12_judgedAnew cX12_judgedAnew 9 (some .int) ∈ lw_ok := lw_i8 124 rfl rfl
theorem wM_X12_401 : Cond.methodLink RX12 401 yX12_addMark ∈ lw_ok := lw_i8 125 rfl rfl
theorem wV_X12_addMark : Cond.instanceMethod yX12_addMark ∈ lw_ok := lw_i8 127 rfl rfl
theorem wK_X12_addMark : Cond.code yX12_addMark cX12_addMark 5 none ∈ lw_ok := lw_i8 128 rfl rfl
theorem wM_X12_405 : Cond.methodLink RX12 405 yX12_dropMark ∈ lw_ok := lw_i8 129 rfl rfl
theorem wV_X12_dropMark : Cond.instanceMethod yX12_dropMark ∈ lw_ok := lw_i8 131 rfl rfl
theorem wK_X12_dropMark : Cond.code yX12_dropMark cX12_dropMark 6 none ∈ lw_ok := lw_i8 132 rfl rfl
theorem wM_X12_408 : Cond.methodLink RX12 408 yX12_front ∈ lw_ok := lw_i8 133 rfl rfl
theorem wV_X12_front : Cond.instanceMethod yX12_front ∈ lw_ok := lw_i8 135 rfl rfl
theorem wK_X12_front : Cond.code yX12_front cX12_front 5 (some .boolean) ∈ lw_ok := lw_i8 136 rfl rfl
theorem wM_X12_575 : Cond.methodLink RX12 575 yX12_best ∈ lw_ok := lw_i8 137 rfl rfl
theorem wV_X12_best : Cond.instanceMethod yX12_best ∈ lw_ok := lw_i8 139 rfl rfl
theorem wK_X12_best : Cond.code yX12_best cX12_best 5 (some .int) ∈ lw_ok := lw_i8 140 rfl rfl
theorem wM_X12_568 : Cond.methodLink RX12 568 yX12_beats ∈ lw_ok := lw_i8 141 rfl rfl
theorem wV_X12_beats : Cond.instanceMethod yX12_beats ∈ lw_ok := lw_i8 143 rfl rfl
theorem wK_X12_beats : Cond.code yX12_beats cX12_beats 6 (some .boolean) ∈ lw_ok := lw_i8 144 rfl rfl
theorem wM_X12_549 : Cond.methodLink RX12 549 yX12_unlike ∈ lw_ok := lw_i8 145 rfl rfl
theorem wV_X12_unlike : Cond.instanceMethod yX12_unlike ∈ lw_ok := lw_i8 147 rfl rfl
theorem wK_X12_unlike : Cond.code yX12_unlike cX12_unlike 13 (some .int) ∈ lw_ok := lw_i8 148 rfl rfl
theorem wM_X12_578 : Cond.methodLink RX12 578 yX12_isBelow ∈ lw_ok := lw_i8 149 rfl rfl
theorem wS_X12_isBelow : Cond.static yX12_isBelow ∈ lw_ok := lw_i8 150 rfl rfl
theorem wK_X12_isBelow : Cond.code yX12_isBelow cX12_isBelow 2 (some .boolean) ∈ lw_ok := lw_i8 151 rfl rfl
theorem wG_X12_571 : Cond.constant RX12 571 (-2147483648) ∈ lw_ok := lw_i8 152 rfl rfl
theorem wM_X12_584 : Cond.methodLink RX12 584 yX12_same ∈ lw_ok := lw_i8 153 rfl rfl
theorem wV_X12_same : Cond.instanceMethod yX12_same ∈ lw_ok := lw_i8 155 rfl rfl
theorem wK_X12_same : Cond.code yX12_same cX12_same 5 (some .boolean) ∈ lw_ok := lw_i8 156 rfl rfl
theorem wM_X12_587 : Cond.methodLink RX12 587 yX12_say ∈ lw_ok := lw_i8 157 rfl rfl
theorem wV_X12_say : Cond.instanceMethod yX12_say ∈ lw_ok := lw_i8 159 rfl rfl
theorem wK_X12_say : Cond.code yX12_say cX12_say 8 none ∈ lw_ok := lw_i8 160 rfl rfl
theorem wM_X12_603 : Cond.methodLink RX12 603 yX12_sayAll ∈ lw_ok := lw_i8 161 rfl rfl
theorem wV_X12_sayAll : Cond.instanceMethod yX12_sayAll ∈ lw_ok := lw_i8 163 rfl rfl
theorem wK_X12_sayAll : Cond.code yX12_sayAll cX12_sayAll 4 none ∈ lw_ok := lw_i8 164 rfl rfl
theorem wM_DomainHouseLaw_71 : Cond.methodLink "DomainHouseLaw" 71 yX12_right ∈ lw_ok := lw_i8 165 rfl rfl
theorem wV_X12_right : Cond.instanceMethod yX12_right ∈ lw_ok := lw_i8 166 rfl rfl
theorem wL_X12_right : Cond.selects RX12 yX12_right yX12_right ∈ lw_ok := lw_i8 167 rfl rfl
theorem wK_X12_right : Cond.code yX12_right cX12_right 7 (some .int) ∈ lw_ok := lw_i8 168 rfl rfl
theorem wM_X12_92 : Cond.methodLink RX12 92 yX12_isPrefix ∈ lw_ok := lw_i8 169 rfl rfl
theorem wV_X12_isPrefix : Cond.instanceMethod yX12_isPrefix ∈ lw_ok := lw_i8 171 rfl rfl
theorem wK_X12_isPrefix : Cond.code yX12_isPrefix cX12_isPrefix 2 (some .boolean) ∈ lw_ok := lw_i8 172 rfl rfl
theorem wM_DomainHouseLaw_75 : Cond.methodLink "DomainHouseLaw" 75 yX12_strike ∈ lw_ok := lw_i8 173 rfl rfl
theorem wV_X12_strike : Cond.instanceMethod yX12_strike ∈ lw_ok := lw_i8 174 rfl rfl
theorem wL_X12_strike : Cond.selects RX12 yX12_strike yX12_strike ∈ lw_ok := lw_i8 175 rfl rfl
theorem wK_X12_strike : Cond.code yX12_strike cX12_strike 3 (some .int) ∈ lw_ok := lw_i8 176 rfl rfl
theorem wM_DomainHouseLaw_80 : Cond.methodLink "DomainHouseLaw" 80 yX12_verdict ∈ lw_ok := lw_i8 177 rfl rfl
theorem wV_X12_verdict : Cond.instanceMethod yX12_verdict ∈ lw_ok := lw_i8 178 rfl rfl
theorem wL_X12_verdict : Cond.selects RX12 yX12_verdict yX12_verdict ∈ lw_ok := lw_i8 179 rfl rfl
theorem wK_X12_verdict : Cond.code yX12_verdict cX12_verdict 5 (some .int) ∈ lw_ok := lw_i8 180 rfl rfl
theorem wM_DomainHouseLaw_84 : Cond.methodLink "DomainHouseLaw" 84 yX12_policy ∈ lw_ok := lw_i8 181 rfl rfl
theorem wV_X12_policy : Cond.instanceMethod yX12_policy ∈ lw_ok := lw_i8 182 rfl rfl
theorem wL_X12_policy : Cond.selects RX12 yX12_policy yX12_policy ∈ lw_ok := lw_i8 183 rfl rfl
theorem wK_X12_policy : Cond.code yX12_policy cX12_policy 1 (some .int) ∈ lw_ok := lw_i8 184 rfl rfl
theorem wM_X12_247 : Cond.methodLink RX12 247 yX12_next ∈ lw_ok := lw_i8 185 rfl rfl
theorem wV_X12_next : Cond.instanceMethod yX12_next ∈ lw_ok := lw_i8 187 rfl rfl
theorem wK_X12_next : Cond.code yX12_next cX12_next 6 none ∈ lw_ok := lw_i8 188 rfl rfl
theorem wM_X12_227 : Cond.methodLink RX12 227 yX12_byteAt ∈ lw_ok := lw_i8 189 rfl rfl
theorem wV_X12_byteAt : Cond.instanceMethod yX12_byteAt ∈ lw_ok := lw_i8 191 rfl rfl
theorem wK_X12_byteAt : Cond.code yX12_byteAt cX12_byteAt 2 (some .int) ∈ lw_ok := lw_i8 192 rfl rfl
theorem wM_X12_236 : Cond.methodLink RX12 236 yX12_wordOf ∈ lw_ok := lw_i8 193 rfl rfl
theorem wS_X12_wordOf : Cond.static yX12_wordOf ∈ lw_ok := lw_i8 194 rfl rfl
theorem wK_X12_wordOf : Cond.code yX12_wordOf cX12_wordOf 2 (some .int) ∈ lw_ok := lw_i8 195 rfl rfl
theorem wH_X12_157 : Cond.constantLong RX12 157 (26217) ∈ lw_ok := lw_i8 196 rfl rfl
theorem wH_X12_159 : Cond.constantLong RX12 159 (6581857) ∈ lw_ok := lw_i8 197 rfl rfl
theorem wH_X12_161 : Cond.constantLong RX12 161 (1852139636) ∈ lw_ok := lw_i8 198 rfl rfl
theorem wH_X12_163 : Cond.constantLong RX12 163 (7630702) ∈ lw_ok := lw_i8 199 rfl rfl
theorem wH_X12_165 : Cond.constantLong RX12 165 (28265) ∈ lw_ok := lw_i8 200 rfl rfl
theorem wH_X12_167 : Cond.constantLong RX12 167 (28532) ∈ lw_ok := lw_i8 201 rfl rfl
theorem wH_X12_169 : Cond.constantLong RX12 169 (7954807) ∈ lw_ok := lw_i8 202 rfl rfl
theorem wH_X12_171 : Cond.constantLong RX12 171 (7958113) ∈ lw_ok := lw_i8 203 rfl rfl
theorem wH_X12_173 : Cond.constantLong RX12 173 (1802658157) ∈ lw_ok := lw_i8 204 rfl rfl
theorem wH_X12_175 : Cond.constantLong RX12 175 (1836020326) ∈ lw_ok := lw_i8 205 rfl rfl
theorem wH_X12_177 : Cond.constantLong RX12 177 (6646132) ∈ lw_ok := lw_i8 206 rfl rfl
theorem wH_X12_179 : Cond.constantLong RX12 179 (114849160783212) ∈ lw_ok := lw_i8 207 rfl rfl
theorem wH_X12_181 : Cond.constantLong RX12 181 (1752394103) ∈ lw_ok := lw_i8 208 rfl rfl
theorem wH_X12_183 : Cond.constantLong RX12 183 (1953722211) ∈ lw_ok := lw_i8 209 rfl rfl
theorem wH_X12_185 : Cond.constantLong RX12 185 (121398985585263) ∈ lw_ok := lw_i8 210 rfl rfl
theorem wH_X12_187 : Cond.constantLong RX12 187 (499967814002) ∈ lw_ok := lw_i8 211 rfl rfl
theorem wH_X12_189 : Cond.constantLong RX12 189 (8243115018434082147) ∈ lw_ok := lw_i8 212 rfl rfl
theorem wH_X12_191 : Cond.constantLong RX12 191 (8243105097092919920) ∈ lw_ok := lw_i8 213 rfl rfl
theorem wH_X12_193 : Cond.constantLong RX12 193 (465491554661) ∈ lw_ok := lw_i8 214 rfl rfl
theorem wH_X12_195 : Cond.constantLong RX12 195 (7235947) ∈ lw_ok := lw_i8 215 rfl rfl
theorem wH_X12_197 : Cond.constantLong RX12 197 (431265440118) ∈ lw_ok := lw_i8 216 rfl rfl
theorem wH_X12_199 : Cond.constantLong RX12 199 (31093567915781749) ∈ lw_ok := lw_i8 217 rfl rfl
theorem wH_X12_201 : Cond.constantLong RX12 201 (6578530) ∈ lw_ok := lw_i8 218 rfl rfl
theorem wH_X12_203 : Cond.constantLong RX12 203 (7628140) ∈ lw_ok := lw_i8 219 rfl rfl
theorem wH_X12_205 : Cond.constantLong RX12 205 (7496034) ∈ lw_ok := lw_i8 220 rfl rfl
theorem wH_X12_207 : Cond.constantLong RX12 207 (6579297) ∈ lw_ok := lw_i8 221 rfl rfl
theorem wH_X12_209 : Cond.constantLong RX12 209 (1886351972) ∈ lw_ok := lw_i8 222 rfl rfl
theorem wH_X12_211 : Cond.constantLong RX12 211 (1701998445) ∈ lw_ok := lw_i8 223 rfl rfl
theorem wH_X12_213 : Cond.constantLong RX12 213 (1819042147) ∈ lw_ok := lw_i8 224 rfl rfl
theorem wM_X12_240 : Cond.methodLink RX12 240 yX12_wrong ∈ lw_ok := lw_i8 225 rfl rfl
theorem wV_X12_wrong : Cond.instanceMethod yX12_wrong ∈ lw_ok := lw_i8 227 rfl rfl
theorem wK_X12_wrong : Cond.code yX12_wrong cX12_wrong 2 none ∈ lw_ok := lw_i8 228 rfl rfl
theorem wM_X12_373 : Cond.methodLink RX12 373 yX12_rowRead ∈ lw_ok := lw_i8 229 rfl rfl
theorem wV_X12_rowRead : Cond.instanceMethod yX12_rowRead ∈ lw_ok := lw_i8 231 rfl rfl
theorem wK_X12_rowRead : Cond.code yX12_rowRead cX12_rowRead 3 none ∈ lw_ok := lw_i8 232 rfl rfl
theorem wM_X12_288 : Cond.methodLink RX12 288 yX12_isWord ∈ lw_ok := lw_i8 233 rfl rfl
theorem wV_X12_isWord : Cond.instanceMethod yX12_isWord ∈ lw_ok := lw_i8 235 rfl rfl
theorem wK_X12_isWord : Cond.code yX12_isWord cX12_isWord 2 (some .boolean) ∈ lw_ok := lw_i8 236 rfl rfl
theorem wM_X12_367 : Cond.methodLink RX12 367 yX12_test ∈ lw_ok := lw_i8 237 rfl rfl
theorem wV_X12_test : Cond.instanceMethod yX12_test ∈ lw_ok := lw_i8 239 rfl rfl
theorem wK_X12_test : Cond.code yX12_test cX12_test 4 none ∈ lw_ok := lw_i9 0 rfl rfl
theorem wM_X12_332 : Cond.methodLink RX12 332 yX12_addressRead ∈ lw_ok := lw_i9 1 rfl rfl
theorem wV_X12_addressRead : Cond.instanceMethod yX12_addressRead ∈ lw_ok := lw_i9 3 rfl rfl
theorem wK_X12_addressRead : Cond.code yX12_addressRead cX12_addressRead 3 (some .int) ∈ lw_ok := lw_i9 4 rfl rfl
theorem wM_X12_314 : Cond.methodLink RX12 314 yX12_within ∈ lw_ok := lw_i9 5 rfl rfl
theorem wV_X12_within : Cond.instanceMethod yX12_within ∈ lw_ok := lw_i9 7 rfl rfl
theorem wK_X12_within : Cond.code yX12_within cX12_within 4 (some .int) ∈ lw_ok := lw_i9 8 rfl rfl
theorem wM_X12_317 : Cond.methodLink RX12 317 yX12_sign ∈ lw_ok := lw_i9 9 rfl rfl
theorem wV_X12_sign : Cond.instanceMethod yX12_sign ∈ lw_ok := lw_i9 11 rfl rfl
theorem wK_X12_sign : Cond.code yX12_sign cX12_sign 2 none ∈ lw_ok := lw_i9 12 rfl rfl
theorem wM_X12_244 : Cond.methodLink RX12 244 yX12_isSign ∈ lw_ok := lw_i9 13 rfl rfl
theorem wV_X12_isSign : Cond.instanceMethod yX12_isSign ∈ lw_ok := lw_i9 15 rfl rfl
theorem wK_X12_isSign : Cond.code yX12_isSign cX12_isSign 2 (some .boolean) ∈ lw_ok := lw_i9 16 rfl rfl
theorem wM_X12_342 : Cond.methodLink RX12 342 yX12_wayTest ∈ lw_ok := lw_i9 17 rfl rfl
theorem wV_X12_wayTest : Cond.instanceMethod yX12_wayTest ∈ lw_ok := lw_i9 19 rfl rfl
theorem wK_X12_wayTest : Cond.code yX12_wayTest cX12_wayTest 3 none ∈ lw_ok := lw_i9 20 rfl rfl
theorem wM_X12_285 : Cond.methodLink RX12 285 yX12_openLevel ∈ lw_ok := lw_i9 21 rfl rfl
theorem wV_X12_openLevel : Cond.instanceMethod yX12_openLevel ∈ lw_ok := lw_i9 23 rfl rfl
theorem wK_X12_openLevel : Cond.code yX12_openLevel cX12_openLevel 1 none ∈ lw_ok := lw_i9 24 rfl rfl
theorem wM_X12_263 : Cond.methodLink RX12 263 yX12_freshRow ∈ lw_ok := lw_i9 25 rfl rfl
theorem wV_X12_freshRow : Cond.instanceMethod yX12_freshRow ∈ lw_ok := lw_i9 27 rfl rfl
theorem wK_X12_freshRow : Cond.code yX12_freshRow cX12_freshRow 1 none ∈ lw_ok := lw_i9 28 rfl rfl
theorem wG_X12_291 : Cond.constant RX12 291 (1000000) ∈ lw_ok := lw_i9 29 rfl rfl
theorem wM_X12_298 : Cond.methodLink RX12 298 yX12_piece ∈ lw_ok := lw_i9 30 rfl rfl
theorem wV_X12_piece : Cond.instanceMethod yX12_piece ∈ lw_ok := lw_i9 32 rfl rfl
theorem wK_X12_piece : Cond.code yX12_piece cX12_piece 8 none ∈ lw_ok := lw_i9 33 rfl rfl
theorem wM_X12_281 : Cond.methodLink RX12 281 yX12_follows ∈ lw_ok := lw_i9 34 rfl rfl
theorem wV_X12_follows : Cond.instanceMethod yX12_follows ∈ lw_ok := lw_i9 36 rfl rfl
theorem wK_X12_follows : Cond.code yX12_follows cX12_follows 6 none ∈ lw_ok := lw_i9 37 rfl rfl
theorem wM_X12_302 : Cond.methodLink RX12 302 yX12_endRow ∈ lw_ok := lw_i9 38 rfl rfl
theorem wV_X12_endRow : Cond.instanceMethod yX12_endRow ∈ lw_ok := lw_i9 40 rfl rfl
theorem wK_X12_endRow : Cond.code yX12_endRow cX12_endRow 2 none ∈ lw_ok := lw_i9 41 rfl rfl
theorem wG_X12_345 : Cond.constant RX12 345 (65535) ∈ lw_ok := lw_i9 42 rfl rfl
theorem wM_X12_370 : Cond.methodLink RX12 370 yX12_actRead ∈ lw_ok := lw_i9 43 rfl rfl
theorem wV_X12_actRead : Cond.instanceMethod yX12_actRead ∈ lw_ok := lw_i9 45 rfl rfl
theorem wK_X12_actRead : Cond.code yX12_actRead cX12_actRead 4 none ∈ lw_ok := lw_i9 46 rfl rfl
theorem wM_DomainHouseLaw_88 : Cond.methodLink "DomainHouseLaw" 88 yX12_fault ∈ lw_ok := lw_i9 47 rfl rfl
theorem wV_X12_fault : Cond.instanceMethod yX12_fault ∈ lw_ok := lw_i9 48 rfl rfl
theorem wL_X12_fault : Cond.selects RX12 yX12_fault yX12_fault ∈ lw_ok := lw_i9 49 rfl rfl
theorem wK_X12_fault : Cond.code yX12_fault cX12_fault 1 (some .int) ∈ lw_ok := lw_i9 50 rfl rfl
theorem wM_DomainHouseLaw_92 : Cond.methodLink "DomainHouseLaw" 92 yX12_route ∈ lw_ok := lw_i9 51 rfl rfl
theorem wV_X12_route : Cond.instanceMethod yX12_route ∈ lw_ok := lw_i9 52 rfl rfl
theorem wL_X12_route : Cond.selects RX12 yX12_route yX12_route ∈ lw_ok := lw_i9 53 rfl rfl
theorem wK_X12_route : Cond.code yX12_route cX12_route 6 (some .int) ∈ lw_ok := lw_i9 54 rfl rfl
theorem wM_DomainHouseLaw_96 : Cond.methodLink "DomainHouseLaw" 96 yX12_judge ∈ lw_ok := lw_i9 55 rfl rfl
theorem wV_X12_judge : Cond.instanceMethod yX12_judge ∈ lw_ok := lw_i9 56 rfl rfl
theorem wL_X12_judge : Cond.selects RX12 yX12_judge yX12_judge ∈ lw_ok := lw_i9 57 rfl rfl
theorem wK_X12_judge : Cond.code yX12_judge cX12_judge 4 (some .int) ∈ lw_ok := lw_i9 58 rfl rfl
theorem wM_DomainHouseLaw_100 : Cond.methodLink "DomainHouseLaw" 100 yX12_hand ∈ lw_ok := lw_i9 59 rfl rfl
theorem wV_X12_hand : Cond.instanceMethod yX12_hand ∈ lw_ok := lw_i9 60 rfl rfl
theorem wL_X12_hand : Cond.selects RX12 yX12_hand yX12_hand ∈ lw_ok := lw_i9 61 rfl rfl
theorem wK_X12_hand : Cond.code yX12_hand cX12_hand 2 (some .int) ∈ lw_ok := lw_i9 62 rfl rfl
theorem wC_DomainHouseLaw_10 : Cond.classLink "DomainHouseLaw" 10 RX12 ∈ lw_ok := lw_i9 63 rfl rfl
theorem wM_DomainHouseLaw_12 : Cond.methodLink "DomainHouseLaw" 12 yX12_init ∈ lw_ok := lw_i9 64 rfl rfl
theorem wV_X12_init : Cond.instanceMethod yX12_init ∈ lw_ok := lw_i9 65 rfl rfl
theorem wK_X12_init : Cond.code yX12_init cX12_init 3 none ∈ lw_ok := lw_i9 66 rfl rfl
theorem wM_X12_418 : Cond.methodLink RX12 418 objectInit ∈ lw_ok := lw_i9 67 rfl rfl
theorem wG_X12_423 : Cond.constant RX12 423 (84000) ∈ lw_ok := lw_i9 68 rfl rfl
theorem wG_X12_529 : Cond.constant RX12 529 (46656) ∈ lw_ok := lw_i9 69 rfl rfl
theorem wF_X12_7 : Cond.fieldLink RX12 7 RX12 "tape" "[B" ∈ lw_ok := lw_i9 70 rfl rfl
theorem wF_X12_1 : Cond.fieldLink RX12 1 RX12 "size" "I" ∈ lw_ok := lw_i9 71 rfl rfl
theorem wF_X12_15 : Cond.fieldLink RX12 15 RX12 "prefixes" "I" ∈ lw_ok := lw_i9 72 rfl rfl
theorem wF_X12_22 : Cond.fieldLink RX12 22 RX12 "xAddress" "[I" ∈ lw_ok := lw_i9 73 rfl rfl
theorem wF_X12_26 : Cond.fieldLink RX12 26 RX12 "xLength" "[I" ∈ lw_ok := lw_i9 74 rfl rfl
theorem wF_X12_34 : Cond.fieldLink RX12 34 RX12 "domains" "I" ∈ lw_ok := lw_i9 75 rfl rfl
theorem wF_X12_37 : Cond.fieldLink RX12 37 RX12 "ties" "I" ∈ lw_ok := lw_i9 76 rfl rfl
theorem wF_X12_40 : Cond.fieldLink RX12 40 RX12 "tEnd" "[I" ∈ lw_ok := lw_i9 77 rfl rfl
theorem wF_X12_46 : Cond.fieldLink RX12 46 RX12 "tKind" "[I" ∈ lw_ok := lw_i9 78 rfl rfl
theorem wF_X12_53 : Cond.fieldLink RX12 53 RX12 "tUp" "[Z" ∈ lw_ok := lw_i9 79 rfl rfl
theorem wF_X12_57 : Cond.fieldLink RX12 57 RX12 "tDelay" "[I" ∈ lw_ok := lw_i9 80 rfl rfl
theorem wF_X12_60 : Cond.fieldLink RX12 60 RX12 "tGap" "[I" ∈ lw_ok := lw_i9 81 rfl rfl
theorem wF_X12_63 : Cond.fieldLink RX12 63 RX12 "tPolicy" "[I" ∈ lw_ok := lw_i9 82 rfl rfl
theorem wF_X12_69 : Cond.fieldLink RX12 69 RX12 "cone" "[Z" ∈ lw_ok := lw_i9 83 rfl rfl
theorem wF_X12_72 : Cond.fieldLink RX12 72 RX12 "far" "[I" ∈ lw_ok := lw_i9 84 rfl rfl
theorem wF_X12_79 : Cond.fieldLink RX12 79 RX12 "hands" "I" ∈ lw_ok := lw_i9 85 rfl rfl
theorem wF_X12_82 : Cond.fieldLink RX12 82 RX12 "handWay" "[I" ∈ lw_ok := lw_i9 86 rfl rfl
theorem wF_X12_85 : Cond.fieldLink RX12 85 RX12 "today" "I" ∈ lw_ok := lw_i9 87 rfl rfl
theorem wF_X12_95 : Cond.fieldLink RX12 95 RX12 "rights" "I" ∈ lw_ok := lw_i9 88 rfl rfl
theorem wF_X12_98 : Cond.fieldLink RX12 98 RX12 "rPrefix" "[I" ∈ lw_ok := lw_i9 89 rfl rfl
theorem wF_X12_101 : Cond.fieldLink RX12 101 RX12 "rMost" "[I" ∈ lw_ok := lw_i9 90 rfl rfl
theorem wF_X12_104 : Cond.fieldLink RX12 104 RX12 "rDomain" "[I" ∈ lw_ok := lw_i9 91 rfl rfl
theorem wF_X12_107 : Cond.fieldLink RX12 107 RX12 "rFrom" "[I" ∈ lw_ok := lw_i9 92 rfl rfl
theorem wF_X12_110 : Cond.fieldLink RX12 110 RX12 "rTo" "[I" ∈ lw_ok := lw_i9 93 rfl rfl
theorem wF_X12_113 : Cond.fieldLink RX12 113 RX12 "rKnown" "[I" ∈ lw_ok := lw_i9 94 rfl rfl
theorem wF_X12_116 : Cond.fieldLink RX12 116 RX12 "rStruck" "[I" ∈ lw_ok := lw_i9 95 rfl rfl
theorem wF_X12_119 : Cond.fieldLink RX12 119 RX12 "isJudged" "Z" ∈ lw_ok := lw_i9 96 rfl rfl
theorem wF_X12_123 : Cond.fieldLink RX12 123 RX12 "judgedPrefix" "I" ∈ lw_ok := lw_i9 97 rfl rfl
theorem wF_X12_126 : Cond.fieldLink RX12 126 RX12 "judgedNumber" "I" ∈ lw_ok := lw_i9 98 rfl rfl
theorem wF_X12_129 : Cond.fieldLink RX12 129 RX12 "judgedDay" "I" ∈ lw_ok := lw_i9 99 rfl rfl
theorem wF_X12_132 : Cond.fieldLink RX12 132 RX12 "judgedKnown" "I" ∈ lw_ok := lw_i9 100 rfl rfl
theorem wF_X12_139 : Cond.fieldLink RX12 139 RX12 "judgedVerdict" "I" ∈ lw_ok := lw_i9 101 rfl rfl
theorem wF_X12_148 : Cond.fieldLink RX12 148 RX12 "routes" "[I" ∈ lw_ok := lw_i9 102 rfl rfl
theorem wF_X12_224 : Cond.fieldLink RX12 224 RX12 "at" "I" ∈ lw_ok := lw_i9 103 rfl rfl
theorem wF_X12_218 : Cond.fieldLink RX12 218 RX12 "from" "I" ∈ lw_ok := lw_i9 104 rfl rfl
theorem wF_X12_230 : Cond.fieldLink RX12 230 RX12 "type" "I" ∈ lw_ok := lw_i9 105 rfl rfl
theorem wF_X12_233 : Cond.fieldLink RX12 233 RX12 "number" "I" ∈ lw_ok := lw_i9 106 rfl rfl
theorem wF_X12_215 : Cond.fieldLink RX12 215 RX12 "code" "I" ∈ lw_ok := lw_i9 107 rfl rfl
theorem wF_X12_221 : Cond.fieldLink RX12 221 RX12 "place" "I" ∈ lw_ok := lw_i9 108 rfl rfl
theorem wF_X12_355 : Cond.fieldLink RX12 355 RX12 "policies" "I" ∈ lw_ok := lw_i9 109 rfl rfl
theorem wF_X12_358 : Cond.fieldLink RX12 358 RX12 "pRows" "[I" ∈ lw_ok := lw_i9 110 rfl rfl
theorem wF_X12_361 : Cond.fieldLink RX12 361 RX12 "rowTest" "[I" ∈ lw_ok := lw_i9 111 rfl rfl
theorem wF_X12_364 : Cond.fieldLink RX12 364 RX12 "rowAct" "[I" ∈ lw_ok := lw_i9 112 rfl rfl
theorem wF_X12_320 : Cond.fieldLink RX12 320 RX12 "tests" "[I" ∈ lw_ok := lw_i9 113 rfl rfl
theorem wF_X12_346 : Cond.fieldLink RX12 346 RX12 "acts" "[I" ∈ lw_ok := lw_i9 114 rfl rfl
theorem wF_X12_323 : Cond.fieldLink RX12 323 RX12 "sWhat" "[I" ∈ lw_ok := lw_i9 115 rfl rfl
theorem wF_X12_326 : Cond.fieldLink RX12 326 RX12 "sNot" "[Z" ∈ lw_ok := lw_i9 116 rfl rfl
theorem wF_X12_329 : Cond.fieldLink RX12 329 RX12 "sA" "[I" ∈ lw_ok := lw_i9 117 rfl rfl
theorem wF_X12_336 : Cond.fieldLink RX12 336 RX12 "sB" "[I" ∈ lw_ok := lw_i9 118 rfl rfl
theorem wF_X12_339 : Cond.fieldLink RX12 339 RX12 "sC" "[I" ∈ lw_ok := lw_i9 119 rfl rfl
theorem wF_X12_305 : Cond.fieldLink RX12 305 RX12 "sFirst" "[J" ∈ lw_ok := lw_i9 120 rfl rfl
theorem wF_X12_308 : Cond.fieldLink RX12 308 RX12 "sLast" "[J" ∈ lw_ok := lw_i9 121 rfl rfl
theorem wF_X12_311 : Cond.fieldLink RX12 311 RX12 "sNone" "[Z" ∈ lw_ok := lw_i9 122 rfl rfl
theorem wF_X12_349 : Cond.fieldLink RX12 349 RX12 "cWhat" "[I" ∈ lw_ok := lw_i9 123 rfl rfl
theorem wF_X12_352 : Cond.fieldLink RX12 352 RX12 "cA" "[I" ∈ lw_ok := lw_i9 124 rfl rfl
theorem wF_X12_292 : Cond.fieldLink RX12 292 RX12 "atoms" "[I" ∈ lw_ok := lw_i9 125 rfl rfl
theorem wF_X12_295 : Cond.fieldLink RX12 295 RX12 "aNumber" "[I" ∈ lw_ok := lw_i9 126 rfl rfl
theorem wF_X12_275 : Cond.fieldLink RX12 275 RX12 "aFollow" "[J" ∈ lw_ok := lw_i9 127 rfl rfl
theorem wF_X12_278 : Cond.fieldLink RX12 278 RX12 "draft" "I" ∈ lw_ok := lw_i9 128 rfl rfl
theorem wF_X12_254 : Cond.fieldLink RX12 254 RX12 "levels" "I" ∈ lw_ok := lw_i9 129 rfl rfl
theorem wF_X12_250 : Cond.fieldLink RX12 250 RX12 "allFirst" "[J" ∈ lw_ok := lw_i9 130 rfl rfl
theorem wF_X12_257 : Cond.fieldLink RX12 257 RX12 "allLast" "[J" ∈ lw_ok := lw_i9 131 rfl rfl
theorem wF_X12_260 : Cond.fieldLink RX12 260 RX12 "allNone" "[Z" ∈ lw_ok := lw_i9 132 rfl rfl
theorem wF_X12_266 : Cond.fieldLink RX12 266 RX12 "rowFirst" "[J" ∈ lw_ok := lw_i9 133 rfl rfl
theorem wF_X12_269 : Cond.fieldLink RX12 269 RX12 "rowLast" "[J" ∈ lw_ok := lw_i9 134 rfl rfl
theorem wF_X12_272 : Cond.fieldLink RX12 272 RX12 "rowNone" "[Z" ∈ lw_ok := lw_i9 135 rfl rfl
theorem wF_X12_376 : Cond.fieldLink RX12 376 RX12 "fault" "I" ∈ lw_ok := lw_i9 136 rfl rfl
theorem wF_X12_388 : Cond.fieldLink RX12 388 RX12 "gPolicy" "[I" ∈ lw_ok := lw_i9 137 rfl rfl
theorem wF_X12_391 : Cond.fieldLink RX12 391 RX12 "gRow" "[I" ∈ lw_ok := lw_i9 138 rfl rfl
theorem wF_X12_394 : Cond.fieldLink RX12 394 RX12 "gAct" "[I" ∈ lw_ok := lw_i9 139 rfl rfl
theorem wF_X12_411 : Cond.fieldLink RX12 411 RX12 "isHand" "Z" ∈ lw_ok := lw_i9 140 rfl rfl
theorem wF_X12_591 : Cond.fieldLink RX12 591 RX12 "clock" "I" ∈ lw_ok := lw_i9 141 rfl rfl
theorem wF_X12_594 : Cond.fieldLink RX12 594 RX12 "made" "I" ∈ lw_ok := lw_i9 142 rfl rfl
theorem wF_X12_610 : Cond.fieldLink RX12 610 RX12 "done" "I" ∈ lw_ok := lw_i9 143 rfl rfl
theorem wF_X12_424 : Cond.fieldLink RX12 424 RX12 "heardAt" "[I" ∈ lw_ok := lw_i9 144 rfl rfl
theorem wF_X12_427 : Cond.fieldLink RX12 427 RX12 "wasSaid" "[Z" ∈ lw_ok := lw_i9 145 rfl rfl
theorem wF_X12_430 : Cond.fieldLink RX12 430 RX12 "saidAt" "[I" ∈ lw_ok := lw_i9 146 rfl rfl
theorem wF_X12_433 : Cond.fieldLink RX12 433 RX12 "goAt" "[I" ∈ lw_ok := lw_i9 147 rfl rfl
theorem wF_X12_436 : Cond.fieldLink RX12 436 RX12 "goMade" "[I" ∈ lw_ok := lw_i9 148 rfl rfl
theorem wF_X12_439 : Cond.fieldLink RX12 439 RX12 "waitAt" "[I" ∈ lw_ok := lw_i9 149 rfl rfl
theorem wF_X12_442 : Cond.fieldLink RX12 442 RX12 "waitMade" "[I" ∈ lw_ok := lw_i9 150 rfl rfl
theorem wF_X12_445 : Cond.fieldLink RX12 445 RX12 "pickedTie" "[I" ∈ lw_ok := lw_i9 151 rfl rfl
theorem wF_X12_448 : Cond.fieldLink RX12 448 RX12 "own" "[I" ∈ lw_ok := lw_i9 152 rfl rfl
theorem wF_X12_451 : Cond.fieldLink RX12 451 RX12 "steps" "[I" ∈ lw_ok := lw_i9 153 rfl rfl
theorem wF_X12_454 : Cond.fieldLink RX12 454 RX12 "grouped" "[Z" ∈ lw_ok := lw_i9 154 rfl rfl
theorem wF_X12_457 : Cond.fieldLink RX12 457 RX12 "left" "[Z" ∈ lw_ok := lw_i9 155 rfl rfl
theorem wF_X12_460 : Cond.fieldLink RX12 460 RX12 "gAddress" "[I" ∈ lw_ok := lw_i9 156 rfl rfl
theorem wF_X12_463 : Cond.fieldLink RX12 463 RX12 "gLength" "[I" ∈ lw_ok := lw_i9 157 rfl rfl
theorem wF_X12_625 : Cond.fieldLink RX12 625 RX12 "gone" "I" ∈ lw_ok := lw_i9 158 rfl rfl
theorem wF_X12_466 : Cond.fieldLink RX12 466 RX12 "nAddress" "[I" ∈ lw_ok := lw_i9 159 rfl rfl
theorem wF_X12_469 : Cond.fieldLink RX12 469 RX12 "nLength" "[I" ∈ lw_ok := lw_i9 160 rfl rfl
theorem wF_X12_628 : Cond.fieldLink RX12 628 RX12 "come" "I" ∈ lw_ok := lw_i9 161 rfl rfl
theorem wF_X12_472 : Cond.fieldLink RX12 472 RX12 "carried" "[I" ∈ lw_ok := lw_i9 162 rfl rfl
theorem wF_X12_652 : Cond.fieldLink RX12 652 RX12 "carries" "I" ∈ lw_ok := lw_i9 163 rfl rfl
theorem wF_X12_475 : Cond.fieldLink RX12 475 RX12 "seen" "[Z" ∈ lw_ok := lw_i9 164 rfl rfl
theorem wF_X12_478 : Cond.fieldLink RX12 478 RX12 "fPlace" "[I" ∈ lw_ok := lw_i9 165 rfl rfl
theorem wF_X12_655 : Cond.fieldLink RX12 655 RX12 "isMessage" "Z" ∈ lw_ok := lw_i9 166 rfl rfl
theorem wF_X12_665 : Cond.fieldLink RX12 665 RX12 "isClose" "Z" ∈ lw_ok := lw_i9 167 rfl rfl
theorem wF_X12_631 : Cond.fieldLink RX12 631 RX12 "isRightOrigin" "Z" ∈ lw_ok := lw_i9 168 rfl rfl
theorem wF_X12_634 : Cond.fieldLink RX12 634 RX12 "isRightWay" "Z" ∈ lw_ok := lw_i9 169 rfl rfl
theorem wF_X12_481 : Cond.fieldLink RX12 481 RX12 "msgMarks" "[I" ∈ lw_ok := lw_i9 170 rfl rfl
theorem wF_X12_637 : Cond.fieldLink RX12 637 RX12 "marksCame" "I" ∈ lw_ok := lw_i9 171 rfl rfl
theorem wF_X12_668 : Cond.fieldLink RX12 668 RX12 "toldKind" "I" ∈ lw_ok := lw_i9 172 rfl rfl
theorem wF_X12_484 : Cond.fieldLink RX12 484 RX12 "octets" "[I" ∈ lw_ok := lw_i9 173 rfl rfl
theorem wF_X12_671 : Cond.fieldLink RX12 671 RX12 "written" "I" ∈ lw_ok := lw_i9 174 rfl rfl
theorem wF_X12_487 : Cond.fieldLink RX12 487 RX12 "led" "[I" ∈ lw_ok := lw_i9 175 rfl rfl
theorem wF_X12_683 : Cond.fieldLink RX12 683 RX12 "ledMany" "I" ∈ lw_ok := lw_i9 176 rfl rfl
theorem wF_X12_490 : Cond.fieldLink RX12 490 RX12 "show" "[I" ∈ lw_ok := lw_i9 177 rfl rfl
theorem wF_X12_692 : Cond.fieldLink RX12 692 RX12 "showMany" "I" ∈ lw_ok := lw_i9 178 rfl rfl
theorem wF_X12_695 : Cond.fieldLink RX12 695 RX12 "demands" "I" ∈ lw_ok := lw_i9 179 rfl rfl
theorem wF_X12_493 : Cond.fieldLink RX12 493 RX12 "dFrom" "[I" ∈ lw_ok := lw_i9 180 rfl rfl
theorem wF_X12_496 : Cond.fieldLink RX12 496 RX12 "dAddress" "[I" ∈ lw_ok := lw_i9 181 rfl rfl
theorem wF_X12_499 : Cond.fieldLink RX12 499 RX12 "dUnits" "[I" ∈ lw_ok := lw_i9 182 rfl rfl
theorem wF_X12_502 : Cond.fieldLink RX12 502 RX12 "nAddr" "[I" ∈ lw_ok := lw_i9 183 rfl rfl
theorem wF_X12_505 : Cond.fieldLink RX12 505 RX12 "nDepth" "[I" ∈ lw_ok := lw_i9 184 rfl rfl
theorem wF_X12_508 : Cond.fieldLink RX12 508 RX12 "nCost" "[I" ∈ lw_ok := lw_i9 185 rfl rfl
theorem wF_X12_698 : Cond.fieldLink RX12 698 RX12 "nodes" "I" ∈ lw_ok := lw_i9 186 rfl rfl
theorem wF_X12_511 : Cond.fieldLink RX12 511 RX12 "edges" "[J" ∈ lw_ok := lw_i9 187 rfl rfl
theorem wF_X12_514 : Cond.fieldLink RX12 514 RX12 "wishes" "[I" ∈ lw_ok := lw_i9 188 rfl rfl
theorem wF_X12_517 : Cond.fieldLink RX12 517 RX12 "wLong" "[I" ∈ lw_ok := lw_i9 189 rfl rfl
theorem wF_X12_520 : Cond.fieldLink RX12 520 RX12 "wWay" "[I" ∈ lw_ok := lw_i9 190 rfl rfl
theorem wF_X12_523 : Cond.fieldLink RX12 523 RX12 "weigh" "[I" ∈ lw_ok := lw_i9 191 rfl rfl
theorem wF_X12_526 : Cond.fieldLink RX12 526 RX12 "has" "[I" ∈ lw_ok := lw_i9 192 rfl rfl
theorem wF_X12_530 : Cond.fieldLink RX12 530 RX12 "reached" "[I" ∈ lw_ok := lw_i9 193 rfl rfl
theorem wF_X12_533 : Cond.fieldLink RX12 533 RX12 "queue" "[I" ∈ lw_ok := lw_i9 194 rfl rfl
theorem wF_X12_536 : Cond.fieldLink RX12 536 RX12 "hopes" "[Z" ∈ lw_ok := lw_i9 195 rfl rfl
theorem wA_boolean : Cond.arrayClass (Jvm.ClassFile.FieldType.boolean) ∈ lw_ok := lw_i10 209 rfl rfl
theorem wM_DomainHouseLaw_46 : Cond.methodLink "DomainHouseLaw" 46 yX12_raise ∈ lw_ok := lw_i10 210 rfl rfl
theorem wV_X12_raise : Cond.instanceMethod yX12_raise ∈ lw_ok := lw_i10 211 rfl rfl
theorem wL_X12_raise : Cond.selects RX12 yX12_raise yX12_raise ∈ lw_ok := lw_i10 212 rfl rfl
theorem wK_X12_raise : Cond.code yX12_raise cX12_raise 5 (some .int) ∈ lw_ok := lw_i10 213 rfl rfl
theorem wM_DomainHouseLaw_104 : Cond.methodLink "DomainHouseLaw" 104 yX12_use ∈ lw_ok := lw_i10 214 rfl rfl
theorem wV_X12_use : Cond.instanceMethod yX12_use ∈ lw_ok := lw_i10 215 rfl rfl
theorem wL_X12_use : Cond.selects RX12 yX12_use yX12_use ∈ lw_ok := lw_i10 216 rfl rfl
theorem wK_X12_use : Cond.code yX12_use cX12_use 6 (some .int) ∈ lw_ok := lw_i10 217 rfl rfl
theorem wM_DomainHouseLaw_109 : Cond.methodLink "DomainHouseLaw" 109 yX12_rule ∈ lw_ok := lw_i10 218 rfl rfl
theorem wV_X12_rule : Cond.instanceMethod yX12_rule ∈ lw_ok := lw_i10 219 rfl rfl
theorem wL_X12_rule : Cond.selects RX12 yX12_rule yX12_rule ∈ lw_ok := lw_i10 220 rfl rfl
theorem wK_X12_rule : Cond.code yX12_rule cX12_rule 8 (some .int) ∈ lw_ok := lw_i10 221 rfl rfl
theorem wM_DomainHouseLaw_113 : Cond.methodLink "DomainHouseLaw" 113 yX12_announce ∈ lw_ok := lw_i10 222 rfl rfl
theorem wV_X12_announce : Cond.instanceMethod yX12_announce ∈ lw_ok := lw_i10 223 rfl rfl
theorem wL_X12_announce : Cond.selects RX12 yX12_announce yX12_announce ∈ lw_ok := lw_i10 224 rfl rfl
theorem wK_X12_announce : Cond.code yX12_announce cX12_announce 5 (some .int) ∈ lw_ok := lw_i10 225 rfl rfl
theorem wM_DomainHouseLaw_117 : Cond.methodLink "DomainHouseLaw" 117 yX12_withdraw ∈ lw_ok := lw_i10 226 rfl rfl
theorem wV_X12_withdraw : Cond.instanceMethod yX12_withdraw ∈ lw_ok := lw_i10 227 rfl rfl
theorem wL_X12_withdraw : Cond.selects RX12 yX12_withdraw yX12_withdraw ∈ lw_ok := lw_i10 228 rfl rfl
theorem wK_X12_withdraw : Cond.code yX12_withdraw cX12_withdraw 3 (some .int) ∈ lw_ok := lw_i10 229 rfl rfl
theorem wM_DomainHouseLaw_121 : Cond.methodLink "DomainHouseLaw" 121 yX12_go ∈ lw_ok := lw_i10 230 rfl rfl
theorem wV_X12_go : Cond.instanceMethod yX12_go ∈ lw_ok := lw_i10 231 rfl rfl
theorem wL_X12_go : Cond.selects RX12 yX12_go yX12_go ∈ lw_ok := lw_i10 232 rfl rfl
theorem wK_X12_go : Cond.code yX12_go cX12_go 3 (some .int) ∈ lw_ok := lw_i10 233 rfl rfl
theorem wM_X12_613 : Cond.methodLink RX12 613 yX12_nextEvent ∈ lw_ok := lw_i10 234 rfl rfl
theorem wV_X12_nextEvent : Cond.instanceMethod yX12_nextEvent ∈ lw_ok := lw_i10 236 rfl rfl
theorem wK_X12_nextEvent : Cond.code yX12_nextEvent cX12_nextEvent 7 (some .int) ∈ lw_ok := lw_i10 237 rfl rfl
theorem wG_X12_606 : Cond.constant RX12 606 (2000000000) ∈ lw_ok := lw_i10 238 rfl rfl
theorem wM_X12_616 : Cond.methodLink RX12 616 yX12_doEvent ∈ lw_ok := lw_i10 239 rfl rfl
theorem wV_X12_doEvent : Cond.instanceMethod yX12_doEvent ∈ lw_ok := lw_i11 1 rfl rfl
theorem wK_X12_doEvent : Cond.code yX12_doEvent cX12_doEvent 7 none ∈ lw_ok := lw_i11 2 rfl rfl
theorem wM_X12_607 : Cond.methodLink RX12 607 yX12_eventAt ∈ lw_ok := lw_i11 3 rfl rfl
theorem wV_X12_eventAt : Cond.instanceMethod yX12_eventAt ∈ lw_ok := lw_i11 5 rfl rfl
theorem wK_X12_eventAt : Cond.code yX12_eventAt cX12_eventAt 2 (some .int) ∈ lw_ok := lw_i11 6 rfl rfl
theorem wM_DomainHouseLaw_125 : Cond.methodLink "DomainHouseLaw" 125 yX12_until ∈ lw_ok := lw_i11 7 rfl rfl
theorem wV_X12_until : Cond.instanceMethod yX12_until ∈ lw_ok := lw_i11 8 rfl rfl
theorem wL_X12_until : Cond.selects RX12 yX12_until yX12_until ∈ lw_ok := lw_i11 9 rfl rfl
theorem wK_X12_until : Cond.code yX12_until cX12_until 4 (some .int) ∈ lw_ok := lw_i11 10 rfl rfl
theorem wG_X12_619 : Cond.constant RX12 619 (1000000000) ∈ lw_ok := lw_i11 11 rfl rfl
theorem wM_DomainHouseLaw_129 : Cond.methodLink "DomainHouseLaw" 129 yX12_picked ∈ lw_ok := lw_i11 12 rfl rfl
theorem wV_X12_picked : Cond.instanceMethod yX12_picked ∈ lw_ok := lw_i11 13 rfl rfl
theorem wL_X12_picked : Cond.selects RX12 yX12_picked yX12_picked ∈ lw_ok := lw_i11 14 rfl rfl
theorem wK_X12_picked : Cond.code yX12_picked cX12_picked 4 (some .int) ∈ lw_ok := lw_i11 15 rfl rfl
theorem wM_DomainHouseLaw_133 : Cond.methodLink "DomainHouseLaw" 133 yX12_heard ∈ lw_ok := lw_i11 16 rfl rfl
theorem wV_X12_heard : Cond.instanceMethod yX12_heard ∈ lw_ok := lw_i11 17 rfl rfl
theorem wL_X12_heard : Cond.selects RX12 yX12_heard yX12_heard ∈ lw_ok := lw_i11 18 rfl rfl
theorem wK_X12_heard : Cond.code yX12_heard cX12_heard 7 (some .int) ∈ lw_ok := lw_i11 19 rfl rfl
theorem wM_DomainHouseLaw_137 : Cond.methodLink "DomainHouseLaw" 137 yX12_why ∈ lw_ok := lw_i11 20 rfl rfl
theorem wV_X12_why : Cond.instanceMethod yX12_why ∈ lw_ok := lw_i11 21 rfl rfl
theorem wL_X12_why : Cond.selects RX12 yX12_why yX12_why ∈ lw_ok := lw_i11 22 rfl rfl
theorem wK_X12_why : Cond.code yX12_why cX12_why 9 (some .int) ∈ lw_ok := lw_i11 23 rfl rfl
theorem wM_DomainHouseLaw_141 : Cond.methodLink "DomainHouseLaw" 141 yX12_three ∈ lw_ok := lw_i11 24 rfl rfl
theorem wV_X12_three : Cond.instanceMethod yX12_three ∈ lw_ok := lw_i11 25 rfl rfl
theorem wL_X12_three : Cond.selects RX12 yX12_three yX12_three ∈ lw_ok := lw_i11 26 rfl rfl
theorem wK_X12_three : Cond.code yX12_three cX12_three 7 (some .int) ∈ lw_ok := lw_i11 27 rfl rfl
theorem wM_DomainHouseLaw_145 : Cond.methodLink "DomainHouseLaw" 145 yX12_message ∈ lw_ok := lw_i11 28 rfl rfl
theorem wV_X12_message : Cond.instanceMethod yX12_message ∈ lw_ok := lw_i11 29 rfl rfl
theorem wL_X12_message : Cond.selects RX12 yX12_message yX12_message ∈ lw_ok := lw_i11 30 rfl rfl
theorem wK_X12_message : Cond.code yX12_message cX12_message 5 (some .int) ∈ lw_ok := lw_i11 31 rfl rfl
theorem wM_X12_623 : Cond.methodLink RX12 623 yX12_number ∈ lw_ok := lw_i11 32 rfl rfl
theorem wV_X12_number : Cond.instanceMethod yX12_number ∈ lw_ok := lw_i11 34 rfl rfl
theorem wK_X12_number : Cond.code yX12_number cX12_number 5 (some .int) ∈ lw_ok := lw_i11 35 rfl rfl
theorem wM_X12_620 : Cond.methodLink RX12 620 yX12_fails ∈ lw_ok := lw_i11 36 rfl rfl
theorem wV_X12_fails : Cond.instanceMethod yX12_fails ∈ lw_ok := lw_i11 38 rfl rfl
theorem wK_X12_fails : Cond.code yX12_fails cX12_fails 3 none ∈ lw_ok := lw_i11 39 rfl rfl
theorem wM_X12_658 : Cond.methodLink RX12 658 yX12_partOf ∈ lw_ok := lw_i11 40 rfl rfl
theorem wV_X12_partOf : Cond.instanceMethod yX12_partOf ∈ lw_ok := lw_i11 42 rfl rfl
theorem wK_X12_partOf : Cond.code yX12_partOf cX12_partOf 8 (some .boolean) ∈ lw_ok := lw_i11 43 rfl rfl
theorem wM_X12_662 : Cond.methodLink RX12 662 yX12_attributes ∈ lw_ok := lw_i11 44 rfl rfl
theorem wV_X12_attributes : Cond.instanceMethod yX12_attributes ∈ lw_ok := lw_i11 46 rfl rfl
theorem wK_X12_attributes : Cond.code yX12_attributes cX12_attributes 12 none ∈ lw_ok := lw_i11 47 rfl rfl
theorem wM_X12_640 : Cond.methodLink RX12 640 yX12_originRight ∈ lw_ok := lw_i11 48 rfl rfl
theorem wV_X12_originRight : Cond.instanceMethod yX12_originRight ∈ lw_ok := lw_i11 50 rfl rfl
theorem wK_X12_originRight : Cond.code yX12_originRight cX12_originRight 3 (some .boolean) ∈ lw_ok := lw_i11 51 rfl rfl
theorem wM_X12_643 : Cond.methodLink RX12 643 yX12_wayRight ∈ lw_ok := lw_i11 52 rfl rfl
theorem wV_X12_wayRight : Cond.instanceMethod yX12_wayRight ∈ lw_ok := lw_i11 54 rfl rfl
theorem wK_X12_wayRight : Cond.code yX12_wayRight cX12_wayRight 11 (some .boolean) ∈ lw_ok := lw_i11 55 rfl rfl
theorem wM_X12_646 : Cond.methodLink RX12 646 yX12_costRight ∈ lw_ok := lw_i11 56 rfl rfl
theorem wV_X12_costRight : Cond.instanceMethod yX12_costRight ∈ lw_ok := lw_i11 58 rfl rfl
theorem wK_X12_costRight : Cond.code yX12_costRight cX12_costRight 4 (some .boolean) ∈ lw_ok := lw_i11 59 rfl rfl
theorem wM_X12_649 : Cond.methodLink RX12 649 yX12_marksRight ∈ lw_ok := lw_i11 60 rfl rfl
theorem wV_X12_marksRight : Cond.instanceMethod yX12_marksRight ∈ lw_ok := lw_i11 62 rfl rfl
theorem wK_X12_marksRight : Cond.code yX12_marksRight cX12_marksRight 5 (some .boolean) ∈ lw_ok := lw_i11 63 rfl rfl
theorem wM_DomainHouseLaw_149 : Cond.methodLink "DomainHouseLaw" 149 yX12_part ∈ lw_ok := lw_i11 64 rfl rfl
theorem wV_X12_part : Cond.instanceMethod yX12_part ∈ lw_ok := lw_i11 65 rfl rfl
theorem wL_X12_part : Cond.selects RX12 yX12_part yX12_part ∈ lw_ok := lw_i11 66 rfl rfl
theorem wK_X12_part : Cond.code yX12_part cX12_part 5 (some .int) ∈ lw_ok := lw_i11 67 rfl rfl
theorem wM_DomainHouseLaw_153 : Cond.methodLink "DomainHouseLaw" 153 yX12_hear ∈ lw_ok := lw_i11 68 rfl rfl
theorem wV_X12_hear : Cond.instanceMethod yX12_hear ∈ lw_ok := lw_i11 69 rfl rfl
theorem wL_X12_hear : Cond.selects RX12 yX12_hear yX12_hear ∈ lw_ok := lw_i11 70 rfl rfl
theorem wK_X12_hear : Cond.code yX12_hear cX12_hear 7 (some .int) ∈ lw_ok := lw_i11 71 rfl rfl
theorem wM_DomainHouseLaw_157 : Cond.methodLink "DomainHouseLaw" 157 yX12_write ∈ lw_ok := lw_i11 72 rfl rfl
theorem wV_X12_write : Cond.instanceMethod yX12_write ∈ lw_ok := lw_i11 73 rfl rfl
theorem wL_X12_write : Cond.selects RX12 yX12_write yX12_write ∈ lw_ok := lw_i11 74 rfl rfl
theorem wK_X12_write : Cond.code yX12_write cX12_write 10 (some .int) ∈ lw_ok := lw_i11 75 rfl rfl
theorem wM_X12_674 : Cond.methodLink RX12 674 yX12_octet1 ∈ lw_ok := lw_i11 76 rfl rfl
theorem wV_X12_octet1 : Cond.instanceMethod yX12_octet1 ∈ lw_ok := lw_i11 78 rfl rfl
theorem wK_X12_octet1 : Cond.code yX12_octet1 cX12_octet1 2 none ∈ lw_ok := lw_i11 79 rfl rfl
theorem wM_X12_677 : Cond.methodLink RX12 677 yX12_prefixOut ∈ lw_ok := lw_i11 80 rfl rfl
theorem wV_X12_prefixOut : Cond.instanceMethod yX12_prefixOut ∈ lw_ok := lw_i11 82 rfl rfl
theorem wK_X12_prefixOut : Cond.code yX12_prefixOut cX12_prefixOut 3 none ∈ lw_ok := lw_i11 83 rfl rfl
theorem wM_X12_680 : Cond.methodLink RX12 680 yX12_octet4 ∈ lw_ok := lw_i11 84 rfl rfl
theorem wV_X12_octet4 : Cond.instanceMethod yX12_octet4 ∈ lw_ok := lw_i11 86 rfl rfl
theorem wK_X12_octet4 : Cond.code yX12_octet4 cX12_octet4 3 none ∈ lw_ok := lw_i11 87 rfl rfl
theorem wM_DomainHouseLaw_161 : Cond.methodLink "DomainHouseLaw" 161 yX12_octet ∈ lw_ok := lw_i11 88 rfl rfl
theorem wV_X12_octet : Cond.instanceMethod yX12_octet ∈ lw_ok := lw_i11 89 rfl rfl
theorem wL_X12_octet : Cond.selects RX12 yX12_octet yX12_octet ∈ lw_ok := lw_i11 90 rfl rfl
theorem wK_X12_octet : Cond.code yX12_octet cX12_octet 2 (some .int) ∈ lw_ok := lw_i11 91 rfl rfl
theorem wM_DomainHouseLaw_165 : Cond.methodLink "DomainHouseLaw" 165 yX12_letter ∈ lw_ok := lw_i11 92 rfl rfl
theorem wV_X12_letter : Cond.instanceMethod yX12_letter ∈ lw_ok := lw_i11 93 rfl rfl
theorem wL_X12_letter : Cond.selects RX12 yX12_letter yX12_letter ∈ lw_ok := lw_i11 94 rfl rfl
theorem wK_X12_letter : Cond.code yX12_letter cX12_letter 5 (some .int) ∈ lw_ok := lw_i11 95 rfl rfl
theorem wM_X12_689 : Cond.methodLink RX12 689 yX12_goes ∈ lw_ok := lw_i11 96 rfl rfl
theorem wV_X12_goes : Cond.instanceMethod yX12_goes ∈ lw_ok := lw_i11 98 rfl rfl
theorem wK_X12_goes : Cond.code yX12_goes cX12_goes 6 (some .int) ∈ lw_ok := lw_i11 99 rfl rfl
theorem wM_X12_686 : Cond.methodLink RX12 686 yX12_sends ∈ lw_ok := lw_i11 100 rfl rfl
theorem wV_X12_sends : Cond.instanceMethod yX12_sends ∈ lw_ok := lw_i11 102 rfl rfl
theorem wK_X12_sends : Cond.code yX12_sends cX12_sends 5 (some .int) ∈ lw_ok := lw_i11 103 rfl rfl
theorem wM_DomainHouseLaw_169 : Cond.methodLink "DomainHouseLaw" 169 yX12_led ∈ lw_ok := lw_i11 104 rfl rfl
theorem wV_X12_led : Cond.instanceMethod yX12_led ∈ lw_ok := lw_i11 105 rfl rfl
theorem wL_X12_led : Cond.selects RX12 yX12_led yX12_led ∈ lw_ok := lw_i11 106 rfl rfl
theorem wK_X12_led : Cond.code yX12_led cX12_led 2 (some .int) ∈ lw_ok := lw_i11 107 rfl rfl
theorem wM_DomainHouseLaw_173 : Cond.methodLink "DomainHouseLaw" 173 yX12_demand ∈ lw_ok := lw_i11 108 rfl rfl
theorem wV_X12_demand : Cond.instanceMethod yX12_demand ∈ lw_ok := lw_i11 109 rfl rfl
theorem wL_X12_demand : Cond.selects RX12 yX12_demand yX12_demand ∈ lw_ok := lw_i11 110 rfl rfl
theorem wK_X12_demand : Cond.code yX12_demand cX12_demand 4 (some .int) ∈ lw_ok := lw_i11 111 rfl rfl
theorem wM_DomainHouseLaw_177 : Cond.methodLink "DomainHouseLaw" 177 yX12_load ∈ lw_ok := lw_i11 112 rfl rfl
theorem wV_X12_load : Cond.instanceMethod yX12_load ∈ lw_ok := lw_i11 113 rfl rfl
theorem wL_X12_load : Cond.selects RX12 yX12_load yX12_load ∈ lw_ok := lw_i11 114 rfl rfl
theorem wK_X12_load : Cond.code yX12_load cX12_load 6 (some .int) ∈ lw_ok := lw_i11 115 rfl rfl
theorem wM_DomainHouseLaw_181 : Cond.methodLink "DomainHouseLaw" 181 yX12_units ∈ lw_ok := lw_i11 116 rfl rfl
theorem wV_X12_units : Cond.instanceMethod yX12_units ∈ lw_ok := lw_i11 117 rfl rfl
theorem wL_X12_units : Cond.selects RX12 yX12_units yX12_units ∈ lw_ok := lw_i11 118 rfl rfl
theorem wK_X12_units : Cond.code yX12_units cX12_units 4 (some .int) ∈ lw_ok := lw_i11 119 rfl rfl
theorem wM_DomainHouseLaw_185 : Cond.methodLink "DomainHouseLaw" 185 yX12_least ∈ lw_ok := lw_i11 120 rfl rfl
theorem wV_X12_least : Cond.instanceMethod yX12_least ∈ lw_ok := lw_i11 121 rfl rfl
theorem wL_X12_least : Cond.selects RX12 yX12_least yX12_least ∈ lw_ok := lw_i11 122 rfl rfl
theorem wK_X12_least : Cond.code yX12_least cX12_least 9 (some .int) ∈ lw_ok := lw_i11 123 rfl rfl
theorem wM_X12_701 : Cond.methodLink RX12 701 yX12_nodeOf ∈ lw_ok := lw_i11 124 rfl rfl
theorem wV_X12_nodeOf : Cond.instanceMethod yX12_nodeOf ∈ lw_ok := lw_i11 126 rfl rfl
theorem wK_X12_nodeOf : Cond.code yX12_nodeOf cX12_nodeOf 4 (some .int) ∈ lw_ok := lw_i11 127 rfl rfl
theorem wM_X12_707 : Cond.methodLink RX12 707 yX12_costOf ∈ lw_ok := lw_i11 128 rfl rfl
theorem wV_X12_costOf : Cond.instanceMethod yX12_costOf ∈ lw_ok := lw_i11 130 rfl rfl
theorem wK_X12_costOf : Cond.code yX12_costOf cX12_costOf 6 (some .int) ∈ lw_ok := lw_i11 131 rfl rfl
theorem wM_X12_704 : Cond.methodLink RX12 704 yX12_aim ∈ lw_ok := lw_i11 132 rfl rfl
theorem wS_X12_aim : Cond.static yX12_aim ∈ lw_ok := lw_i11 133 rfl rfl
theorem wK_X12_aim : Cond.code yX12_aim cX12_aim 1 (some .int) ∈ lw_ok := lw_i11 134 rfl rfl
theorem wM_DomainHouseLaw_190 : Cond.methodLink "DomainHouseLaw" 190 yX12_differ ∈ lw_ok := lw_i11 135 rfl rfl
theorem wV_X12_differ : Cond.instanceMethod yX12_differ ∈ lw_ok := lw_i11 136 rfl rfl
theorem wL_X12_differ : Cond.selects RX12 yX12_differ yX12_differ ∈ lw_ok := lw_i11 137 rfl rfl
theorem wK_X12_differ : Cond.code yX12_differ cX12_differ 10 (some .long) ∈ lw_ok := lw_i11 138 rfl rfl
theorem wH_X12_710 : Cond.constantLong RX12 710 (-1) ∈ lw_ok := lw_i11 139 rfl rfl
theorem wH_X12_712 : Cond.constantLong RX12 712 (4294967296) ∈ lw_ok := lw_i11 140 rfl rfl
theorem wH_X12_714 : Cond.constantLong RX12 714 (4294967295) ∈ lw_ok := lw_i11 141 rfl rfl
theorem wM_DomainHouseLaw_194 : Cond.methodLink "DomainHouseLaw" 194 yX12_clear ∈ lw_ok := lw_i11 142 rfl rfl
theorem wV_X12_clear : Cond.instanceMethod yX12_clear ∈ lw_ok := lw_i11 143 rfl rfl
theorem wL_X12_clear : Cond.selects RX12 yX12_clear yX12_clear ∈ lw_ok := lw_i11 144 rfl rfl
theorem wK_X12_clear : Cond.code yX12_clear cX12_clear 3 (some .int) ∈ lw_ok := lw_i11 145 rfl rfl
theorem wM_DomainHouseLaw_198 : Cond.methodLink "DomainHouseLaw" 198 yX12_wish ∈ lw_ok := lw_i11 146 rfl rfl
theorem wV_X12_wish : Cond.instanceMethod yX12_wish ∈ lw_ok := lw_i11 147 rfl rfl
theorem wL_X12_wish : Cond.selects RX12 yX12_wish yX12_wish ∈ lw_ok := lw_i11 148 rfl rfl
theorem wK_X12_wish : Cond.code yX12_wish cX12_wish 5 (some .int) ∈ lw_ok := lw_i11 149 rfl rfl
theorem wM_X12_716 : Cond.methodLink RX12 716 yX12_isWished ∈ lw_ok := lw_i11 150 rfl rfl
theorem wV_X12_isWished : Cond.instanceMethod yX12_isWished ∈ lw_ok := lw_i11 152 rfl rfl
theorem wK_X12_isWished : Cond.code yX12_isWished cX12_isWished 5 (some .boolean) ∈ lw_ok := lw_i11 153 rfl rfl
theorem wM_DomainHouseLaw_202 : Cond.methodLink "DomainHouseLaw" 202 yX12_rests ∈ lw_ok := lw_i11 154 rfl rfl
theorem wV_X12_rests : Cond.instanceMethod yX12_rests ∈ lw_ok := lw_i11 155 rfl rfl
theorem wL_X12_rests : Cond.selects RX12 yX12_rests yX12_rests ∈ lw_ok := lw_i11 156 rfl rfl
theorem wK_X12_rests : Cond.code yX12_rests cX12_rests 4 (some .int) ∈ lw_ok := lw_i11 157 rfl rfl
theorem wM_X12_728 : Cond.methodLink RX12 728 yX12_states ∈ lw_ok := lw_i11 158 rfl rfl
theorem wV_X12_states : Cond.instanceMethod yX12_states ∈ lw_ok := lw_i11 160 rfl rfl
theorem wK_X12_states : Cond.code yX12_states cX12_states 3 (some .int) ∈ lw_ok := lw_i11 161 rfl rfl
theorem wM_X12_731 : Cond.methodLink RX12 731 yX12_isRest ∈ lw_ok := lw_i11 162 rfl rfl
theorem wV_X12_isRest : Cond.instanceMethod yX12_isRest ∈ lw_ok := lw_i11 164 rfl rfl
theorem wK_X12_isRest : Cond.code yX12_isRest cX12_isRest 4 (some .boolean) ∈ lw_ok := lw_i11 165 rfl rfl
theorem wM_X12_722 : Cond.methodLink RX12 722 yX12_open ∈ lw_ok := lw_i11 166 rfl rfl
theorem wV_X12_open : Cond.instanceMethod yX12_open ∈ lw_ok := lw_i11 168 rfl rfl
theorem wK_X12_open : Cond.code yX12_open cX12_open 3 none ∈ lw_ok := lw_i11 169 rfl rfl
theorem wM_X12_725 : Cond.methodLink RX12 725 yX12_acted ∈ lw_ok := lw_i11 170 rfl rfl
theorem wV_X12_acted : Cond.instanceMethod yX12_acted ∈ lw_ok := lw_i11 172 rfl rfl
theorem wK_X12_acted : Cond.code yX12_acted cX12_acted 3 (some .int) ∈ lw_ok := lw_i11 173 rfl rfl
theorem wM_X12_719 : Cond.methodLink RX12 719 yX12_isOffered ∈ lw_ok := lw_i11 174 rfl rfl
theorem wV_X12_isOffered : Cond.instanceMethod yX12_isOffered ∈ lw_ok := lw_i11 176 rfl rfl
theorem wK_X12_isOffered : Cond.code yX12_isOffered cX12_isOffered 6 (some .boolean) ∈ lw_ok := lw_i11 177 rfl rfl
theorem wM_DomainHouseLaw_206 : Cond.methodLink "DomainHouseLaw" 206 yX12_rest ∈ lw_ok := lw_i11 178 rfl rfl
theorem wV_X12_rest : Cond.instanceMethod yX12_rest ∈ lw_ok := lw_i11 179 rfl rfl
theorem wL_X12_rest : Cond.selects RX12 yX12_rest yX12_rest ∈ lw_ok := lw_i11 180 rfl rfl
theorem wK_X12_rest : Cond.code yX12_rest cX12_rest 6 (some .int) ∈ lw_ok := lw_i11 181 rfl rfl
theorem wM_DomainHouseLaw_210 : Cond.methodLink "DomainHouseLaw" 210 yX12_tries ∈ lw_ok := lw_i11 182 rfl rfl
theorem wV_X12_tries : Cond.instanceMethod yX12_tries ∈ lw_ok := lw_i11 183 rfl rfl
theorem wL_X12_tries : Cond.selects RX12 yX12_tries yX12_tries ∈ lw_ok := lw_i11 184 rfl rfl
theorem wK_X12_tries : Cond.code yX12_tries cX12_tries 12 (some .int) ∈ lw_ok := lw_i11 185 rfl rfl
theorem wM_DomainHouseLaw_214 : Cond.methodLink "DomainHouseLaw" 214 yX12_count ∈ lw_ok := lw_i11 186 rfl rfl
theorem wV_X12_count : Cond.instanceMethod yX12_count ∈ lw_ok := lw_i11 187 rfl rfl
theorem wL_X12_count : Cond.selects RX12 yX12_count yX12_count ∈ lw_ok := lw_i11 188 rfl rfl
theorem wK_X12_count : Cond.code yX12_count cX12_count 4 (some .int) ∈ lw_ok := lw_i11 189 rfl rfl
theorem wL_X11_feedNumber : Cond.selects RX11 yX11_feedNumber yX11_feedNumber ∈ lw_ok := lw_in 0 rfl rfl
theorem wL_X11_isDomain : Cond.selects RX11 yX11_isDomain yX11_isDomain ∈ lw_ok := lw_in 1 rfl rfl
theorem wL_X11_isTie : Cond.selects RX11 yX11_isTie yX11_isTie ∈ lw_ok := lw_in 2 rfl rfl
theorem wL_X8_say : Cond.selects RX8 yX8_say yX8_say ∈ lw_ok := lw_in 3 rfl rfl
theorem wL_X8_compose : Cond.selects RX8 yX8_compose yX8_compose ∈ lw_ok := lw_in 4 rfl rfl
theorem wL_X1_goThrough : Cond.selects RX1 yX1_goThrough yX1_goThrough ∈ lw_ok := lw_in 5 rfl rfl
theorem wL_X1_isSo : Cond.selects RX1 yX1_isSo yX1_isSo ∈ lw_ok := lw_in 6 rfl rfl
theorem wL_X1_doActs : Cond.selects RX1 yX1_doActs yX1_doActs ∈ lw_ok := lw_in 7 rfl rfl
theorem wL_X8_schedule : Cond.selects RX8 yX8_schedule yX8_schedule ∈ lw_ok := lw_in 8 rfl rfl
theorem wL_X8_cancel : Cond.selects RX8 yX8_cancel yX8_cancel ∈ lw_ok := lw_in 9 rfl rfl
theorem wL_X8_gather : Cond.selects RX8 yX8_gather yX8_gather ∈ lw_ok := lw_in 10 rfl rfl
theorem wL_X8_pickGrouped : Cond.selects RX8 yX8_pickGrouped yX8_pickGrouped ∈ lw_ok := lw_in 11 rfl rfl
theorem wL_X8_isFirstOfGroup : Cond.selects RX8 yX8_isFirstOfGroup yX8_isFirstOfGroup ∈ lw_ok := lw_in 12 rfl rfl
theorem wL_X8_bestOfGroup : Cond.selects RX8 yX8_bestOfGroup yX8_bestOfGroup ∈ lw_ok := lw_in 13 rfl rfl
theorem wL_X8_insertWinner : Cond.selects RX8 yX8_insertWinner yX8_insertWinner ∈ lw_ok := lw_in 14 rfl rfl
theorem wL_X8_groupOrder : Cond.selects RX8 yX8_groupOrder yX8_groupOrder ∈ lw_ok := lw_in 15 rfl rfl
theorem wL_X8_lastStanding : Cond.selects RX8 yX8_lastStanding yX8_lastStanding ∈ lw_ok := lw_in 16 rfl rfl
theorem wL_X8_pickPlain : Cond.selects RX8 yX8_pickPlain yX8_pickPlain ∈ lw_ok := lw_in 17 rfl rfl
theorem wL_X10_shortestRing : Cond.selects RX10 yX10_shortestRing yX10_shortestRing ∈ lw_ok := lw_in 18 rfl rfl
theorem wL_X10_fillRing : Cond.selects RX10 yX10_fillRing yX10_fillRing ∈ lw_ok := lw_in 19 rfl rfl
theorem wL_X10_leastCustomer : Cond.selects RX10 yX10_leastCustomer yX10_leastCustomer ∈ lw_ok := lw_in 20 rfl rfl
theorem wL_X11_isPrefix : Cond.selects RX11 yX11_isPrefix yX11_isPrefix ∈ lw_ok := lw_in 21 rfl rfl
theorem wL_X6_split : Cond.selects RX6 yX6_split yX6_split ∈ lw_ok := lw_in 22 rfl rfl
theorem wL_X6_putToken : Cond.selects RX6 yX6_putToken yX6_putToken ∈ lw_ok := lw_in 23 rfl rfl
theorem wL_X6_putNumber : Cond.selects RX6 yX6_putNumber yX6_putNumber ∈ lw_ok := lw_in 24 rfl rfl
theorem wL_X6_readRow : Cond.selects RX6 yX6_readRow yX6_readRow ∈ lw_ok := lw_in 25 rfl rfl
theorem wL_X6_fail : Cond.selects RX6 yX6_fail yX6_fail ∈ lw_ok := lw_in 26 rfl rfl
theorem wL_X6_put : Cond.selects RX6 yX6_put yX6_put ∈ lw_ok := lw_in 27 rfl rfl
theorem wL_X6_take : Cond.selects RX6 yX6_take yX6_take ∈ lw_ok := lw_in 28 rfl rfl
theorem wL_X6_step : Cond.selects RX6 yX6_step yX6_step ∈ lw_ok := lw_in 29 rfl rfl
theorem wL_X6_readTest : Cond.selects RX6 yX6_readTest yX6_readTest ∈ lw_ok := lw_in 30 rfl rfl
theorem wL_X6_readHeldIn : Cond.selects RX6 yX6_readHeldIn yX6_readHeldIn ∈ lw_ok := lw_in 31 rfl rfl
theorem wL_X6_number : Cond.selects RX6 yX6_number yX6_number ∈ lw_ok := lw_in 32 rfl rfl
theorem wL_X6_expect : Cond.selects RX6 yX6_expect yX6_expect ∈ lw_ok := lw_in 33 rfl rfl
theorem wL_X6_putTest : Cond.selects RX6 yX6_putTest yX6_putTest ∈ lw_ok := lw_in 34 rfl rfl
theorem wL_X6_readWay : Cond.selects RX6 yX6_readWay yX6_readWay ∈ lw_ok := lw_in 35 rfl rfl
theorem wL_X6_readBranches : Cond.selects RX6 yX6_readBranches yX6_readBranches ∈ lw_ok := lw_in 36 rfl rfl
theorem wL_X6_readGroup : Cond.selects RX6 yX6_readGroup yX6_readGroup ∈ lw_ok := lw_in 37 rfl rfl
theorem wL_X6_readPlace : Cond.selects RX6 yX6_readPlace yX6_readPlace ∈ lw_ok := lw_in 38 rfl rfl
theorem wL_X6_readRepeat : Cond.selects RX6 yX6_readRepeat yX6_readRepeat ∈ lw_ok := lw_in 39 rfl rfl
theorem wL_X6_join : Cond.selects RX6 yX6_join yX6_join ∈ lw_ok := lw_in 40 rfl rfl
theorem wL_X6_oneOf : Cond.selects RX6 yX6_oneOf yX6_oneOf ∈ lw_ok := lw_in 41 rfl rfl
theorem wL_X6_relation : Cond.selects RX6 yX6_relation yX6_relation ∈ lw_ok := lw_in 42 rfl rfl
theorem wL_X6_readAct : Cond.selects RX6 yX6_readAct yX6_readAct ∈ lw_ok := lw_in 43 rfl rfl
theorem wL_X11_rowInHand : Cond.selects RX11 yX11_rowInHand yX11_rowInHand ∈ lw_ok := lw_in 44 rfl rfl
theorem wL_X8_handOver : Cond.selects RX8 yX8_handOver yX8_handOver ∈ lw_ok := lw_in 45 rfl rfl
theorem wL_X8_candidateOver : Cond.selects RX8 yX8_candidateOver yX8_candidateOver ∈ lw_ok := lw_in 46 rfl rfl
theorem wL_X3_forget : Cond.selects RX3 yX3_forget yX3_forget ∈ lw_ok := lw_in 47 rfl rfl
theorem wL_X3_readParts : Cond.selects RX3 yX3_readParts yX3_readParts ∈ lw_ok := lw_in 48 rfl rfl
theorem wL_X3_pairAt : Cond.selects RX3 yX3_pairAt yX3_pairAt ∈ lw_ok := lw_in 49 rfl rfl
theorem wL_X3_note : Cond.selects RX3 yX3_note yX3_note ∈ lw_ok := lw_in 50 rfl rfl
theorem wL_X3_readPrefixes : Cond.selects RX3 yX3_readPrefixes yX3_readPrefixes ∈ lw_ok := lw_in 51 rfl rfl
theorem wL_X3_readAttributes : Cond.selects RX3 yX3_readAttributes yX3_readAttributes ∈ lw_ok := lw_in 52 rfl rfl
theorem wL_X3_readAttribute : Cond.selects RX3 yX3_readAttribute yX3_readAttribute ∈ lw_ok := lw_in 53 rfl rfl
theorem wL_X3_readOrigin : Cond.selects RX3 yX3_readOrigin yX3_readOrigin ∈ lw_ok := lw_in 54 rfl rfl
theorem wL_X3_readWay : Cond.selects RX3 yX3_readWay yX3_readWay ∈ lw_ok := lw_in 55 rfl rfl
theorem wL_X3_fourAt : Cond.selects RX3 yX3_fourAt yX3_fourAt ∈ lw_ok := lw_in 56 rfl rfl
theorem wL_X3_readCost : Cond.selects RX3 yX3_readCost yX3_readCost ∈ lw_ok := lw_in 57 rfl rfl
theorem wL_X3_readMarks : Cond.selects RX3 yX3_readMarks yX3_readMarks ∈ lw_ok := lw_in 58 rfl rfl
theorem wL_X3_keepMark : Cond.selects RX3 yX3_keepMark yX3_keepMark ∈ lw_ok := lw_in 59 rfl rfl
theorem wL_X3_carry : Cond.selects RX3 yX3_carry yX3_carry ∈ lw_ok := lw_in 60 rfl rfl
theorem wL_X3_placeTold : Cond.selects RX3 yX3_placeTold yX3_placeTold ∈ lw_ok := lw_in 61 rfl rfl
theorem wL_X3_toldInAll : Cond.selects RX3 yX3_toldInAll yX3_toldInAll ∈ lw_ok := lw_in 62 rfl rfl
theorem wL_X3_toldOfRow : Cond.selects RX3 yX3_toldOfRow yX3_toldOfRow ∈ lw_ok := lw_in 63 rfl rfl
theorem wL_X3_putNumber : Cond.selects RX3 yX3_putNumber yX3_putNumber ∈ lw_ok := lw_in 64 rfl rfl
theorem wL_X3_putPrefix : Cond.selects RX3 yX3_putPrefix yX3_putPrefix ∈ lw_ok := lw_in 65 rfl rfl
theorem wL_X3_putAttributes : Cond.selects RX3 yX3_putAttributes yX3_putAttributes ∈ lw_ok := lw_in 66 rfl rfl
theorem wL_X3_putHead : Cond.selects RX3 yX3_putHead yX3_putHead ∈ lw_ok := lw_in 67 rfl rfl
theorem wL_X2_travel : Cond.selects RX2 yX2_travel yX2_travel ∈ lw_ok := lw_in 68 rfl rfl
theorem wL_X2_partnerFor : Cond.selects RX2 yX2_partnerFor yX2_partnerFor ∈ lw_ok := lw_in 69 rfl rfl
theorem wL_X2_tieFor : Cond.selects RX2 yX2_tieFor yX2_tieFor ∈ lw_ok := lw_in 70 rfl rfl
theorem wL_X2_leastBelow : Cond.selects RX2 yX2_leastBelow yX2_leastBelow ∈ lw_ok := lw_in 71 rfl rfl
theorem wL_X2_isSplit : Cond.selects RX2 yX2_isSplit yX2_isSplit ∈ lw_ok := lw_in 72 rfl rfl
theorem wL_X2_layBorders : Cond.selects RX2 yX2_layBorders yX2_layBorders ∈ lw_ok := lw_in 73 rfl rfl
theorem wL_X2_insertBorder : Cond.selects RX2 yX2_insertBorder yX2_insertBorder ∈ lw_ok := lw_in 74 rfl rfl
theorem wL_X4_prepare : Cond.selects RX4 yX4_prepare yX4_prepare ∈ lw_ok := lw_in 75 rfl rfl
theorem wL_X4_need : Cond.selects RX4 yX4_need yX4_need ∈ lw_ok := lw_in 76 rfl rfl
theorem wL_X4_unfold : Cond.selects RX4 yX4_unfold yX4_unfold ∈ lw_ok := lw_in 77 rfl rfl
theorem wL_X4_figure : Cond.selects RX4 yX4_figure yX4_figure ∈ lw_ok := lw_in 78 rfl rfl
theorem wL_X4_isRest : Cond.selects RX4 yX4_isRest yX4_isRest ∈ lw_ok := lw_in 79 rfl rfl
theorem wL_X4_actOf : Cond.selects RX4 yX4_actOf yX4_actOf ∈ lw_ok := lw_in 80 rfl rfl
theorem wL_X4_keepRest : Cond.selects RX4 yX4_keepRest yX4_keepRest ∈ lw_ok := lw_in 81 rfl rfl
theorem wL_X4_countUp : Cond.selects RX4 yX4_countUp yX4_countUp ∈ lw_ok := lw_in 82 rfl rfl
theorem wL_X4_makeRoom : Cond.selects RX4 yX4_makeRoom yX4_makeRoom ∈ lw_ok := lw_in 83 rfl rfl
theorem wL_X4_spread : Cond.selects RX4 yX4_spread yX4_spread ∈ lw_ok := lw_in 84 rfl rfl
theorem wL_X4_addNeighbours : Cond.selects RX4 yX4_addNeighbours yX4_addNeighbours ∈ lw_ok := lw_in 85 rfl rfl
theorem wL_X4_leadBack : Cond.selects RX4 yX4_leadBack yX4_leadBack ∈ lw_ok := lw_in 86 rfl rfl
theorem wL_X4_addSources : Cond.selects RX4 yX4_addSources yX4_addSources ∈ lw_ok := lw_in 87 rfl rfl
theorem wL_X12_prefixOf : Cond.selects RX12 yX12_prefixOf yX12_prefixOf ∈ lw_ok := lw_in 88 rfl rfl
theorem wL_X12_isDomain : Cond.selects RX12 yX12_isDomain yX12_isDomain ∈ lw_ok := lw_in 89 rfl rfl
theorem wL_X12_tieOf : Cond.selects RX12 yX12_tieOf yX12_tieOf ∈ lw_ok := lw_in 90 rfl rfl
theorem wL_X12_isTie : Cond.selects RX12 yX12_isTie yX12_isTie ∈ lw_ok := lw_in 91 rfl rfl
theorem wL_X12_provides : Cond.selects RX12 yX12_provides yX12_provides ∈ lw_ok := lw_in 92 rfl rfl
theorem wL_X12_rethink : Cond.selects RX12 yX12_rethink yX12_rethink ∈ lw_ok := lw_in 93 rfl rfl
theorem wL_X12_lookAll : Cond.selects RX12 yX12_lookAll yX12_lookAll ∈ lw_ok := lw_in 94 rfl rfl
theorem wL_X12_look : Cond.selects RX12 yX12_look yX12_look ∈ lw_ok := lw_in 95 rfl rfl
theorem wL_X12_pick : Cond.selects RX12 yX12_pick yX12_pick ∈ lw_ok := lw_in 96 rfl rfl
theorem wL_X12_candidates : Cond.selects RX12 yX12_candidates yX12_candidates ∈ lw_ok := lw_in 97 rfl rfl
theorem wL_X12_isAt : Cond.selects RX12 yX12_isAt yX12_isAt ∈ lw_ok := lw_in 98 rfl rfl
theorem wL_X12_candidate : Cond.selects RX12 yX12_candidate yX12_candidate ∈ lw_ok := lw_in 99 rfl rfl
theorem wL_X12_sideOf : Cond.selects RX12 yX12_sideOf yX12_sideOf ∈ lw_ok := lw_in 100 rfl rfl
theorem wL_X12_nothing : Cond.selects RX12 yX12_nothing yX12_nothing ∈ lw_ok := lw_in 101 rfl rfl
theorem wL_X12_isThere : Cond.selects RX12 yX12_isThere yX12_isThere ∈ lw_ok := lw_in 102 rfl rfl
theorem wL_X12_isIn : Cond.selects RX12 yX12_isIn yX12_isIn ∈ lw_ok := lw_in 103 rfl rfl
theorem wL_X12_copy : Cond.selects RX12 yX12_copy yX12_copy ∈ lw_ok := lw_in 104 rfl rfl
theorem wL_X12_partnerOf : Cond.selects RX12 yX12_partnerOf yX12_partnerOf ∈ lw_ok := lw_in 105 rfl rfl
theorem wL_X12_through : Cond.selects RX12 yX12_through yX12_through ∈ lw_ok := lw_in 106 rfl rfl
theorem wL_X12_isSo : Cond.selects RX12 yX12_isSo yX12_isSo ∈ lw_ok := lw_in 107 rfl rfl
theorem wL_X12_waysMatch : Cond.selects RX12 yX12_waysMatch yX12_waysMatch ∈ lw_ok := lw_in 108 rfl rfl
theorem wL_X12_marked : Cond.selects RX12 yX12_marked yX12_marked ∈ lw_ok := lw_in 109 rfl rfl
theorem wL_X12_tieWord : Cond.selects RX12 yX12_tieWord yX12_tieWord ∈ lw_ok := lw_in 110 rfl rfl
theorem wL_X12_related : Cond.selects RX12 yX12_related yX12_related ∈ lw_ok := lw_in 111 rfl rfl
theorem wL_X12_judged : Cond.selects RX12 yX12_judged yX12_judged ∈ lw_ok := lw_in 112 rfl rfl
theorem wL_X12_judgedAnew : Cond.selects RX12 yX12_judgedAnew yX12_judgedAnew ∈ lw_ok := lw_in 113 rfl rfl
theorem wL_X12_addMark : Cond.selects RX12 yX12_addMark yX12_addMark ∈ lw_ok := lw_in 114 rfl rfl
theorem wL_X12_dropMark : Cond.selects RX12 yX12_dropMark yX12_dropMark ∈ lw_ok := lw_in 115 rfl rfl
theorem wL_X12_front : Cond.selects RX12 yX12_front yX12_front ∈ lw_ok := lw_in 116 rfl rfl
theorem wL_X12_best : Cond.selects RX12 yX12_best yX12_best ∈ lw_ok := lw_in 117 rfl rfl
theorem wL_X12_beats : Cond.selects RX12 yX12_beats yX12_beats ∈ lw_ok := lw_in 118 rfl rfl
theorem wL_X12_unlike : Cond.selects RX12 yX12_unlike yX12_unlike ∈ lw_ok := lw_in 119 rfl rfl
theorem wL_X12_same : Cond.selects RX12 yX12_same yX12_same ∈ lw_ok := lw_in 120 rfl rfl
theorem wL_X12_say : Cond.selects RX12 yX12_say yX12_say ∈ lw_ok := lw_in 121 rfl rfl
theorem wL_X12_sayAll : Cond.selects RX12 yX12_sayAll yX12_sayAll ∈ lw_ok := lw_in 122 rfl rfl
theorem wL_X12_isPrefix : Cond.selects RX12 yX12_isPrefix yX12_isPrefix ∈ lw_ok := lw_in 123 rfl rfl
theorem wL_X12_next : Cond.selects RX12 yX12_next yX12_next ∈ lw_ok := lw_in 124 rfl rfl
theorem wL_X12_byteAt : Cond.selects RX12 yX12_byteAt yX12_byteAt ∈ lw_ok := lw_in 125 rfl rfl
theorem wL_X12_wrong : Cond.selects RX12 yX12_wrong yX12_wrong ∈ lw_ok := lw_in 126 rfl rfl
theorem wL_X12_rowRead : Cond.selects RX12 yX12_rowRead yX12_rowRead ∈ lw_ok := lw_in 127 rfl rfl
theorem wL_X12_isWord : Cond.selects RX12 yX12_isWord yX12_isWord ∈ lw_ok := lw_in 128 rfl rfl
theorem wL_X12_test : Cond.selects RX12 yX12_test yX12_test ∈ lw_ok := lw_in 129 rfl rfl
theorem wL_X12_addressRead : Cond.selects RX12 yX12_addressRead yX12_addressRead ∈ lw_ok := lw_in 130 rfl rfl
theorem wL_X12_within : Cond.selects RX12 yX12_within yX12_within ∈ lw_ok := lw_in 131 rfl rfl
theorem wL_X12_sign : Cond.selects RX12 yX12_sign yX12_sign ∈ lw_ok := lw_in 132 rfl rfl
theorem wL_X12_isSign : Cond.selects RX12 yX12_isSign yX12_isSign ∈ lw_ok := lw_in 133 rfl rfl
theorem wL_X12_wayTest : Cond.selects RX12 yX12_wayTest yX12_wayTest ∈ lw_ok := lw_in 134 rfl rfl
theorem wL_X12_openLevel : Cond.selects RX12 yX12_openLevel yX12_openLevel ∈ lw_ok := lw_in 135 rfl rfl
theorem wL_X12_freshRow : Cond.selects RX12 yX12_freshRow yX12_freshRow ∈ lw_ok := lw_in 136 rfl rfl
theorem wL_X12_piece : Cond.selects RX12 yX12_piece yX12_piece ∈ lw_ok := lw_in 137 rfl rfl
theorem wL_X12_follows : Cond.selects RX12 yX12_follows yX12_follows ∈ lw_ok := lw_in 138 rfl rfl
theorem wL_X12_endRow : Cond.selects RX12 yX12_endRow yX12_endRow ∈ lw_ok := lw_in 139 rfl rfl
theorem wL_X12_actRead : Cond.selects RX12 yX12_actRead yX12_actRead ∈ lw_ok := lw_in 140 rfl rfl
theorem wL_X12_nextEvent : Cond.selects RX12 yX12_nextEvent yX12_nextEvent ∈ lw_ok := lw_in 141 rfl rfl
theorem wL_X12_doEvent : Cond.selects RX12 yX12_doEvent yX12_doEvent ∈ lw_ok := lw_in 142 rfl rfl
theorem wL_X12_eventAt : Cond.selects RX12 yX12_eventAt yX12_eventAt ∈ lw_ok := lw_in 143 rfl rfl
theorem wL_X12_number : Cond.selects RX12 yX12_number yX12_number ∈ lw_ok := lw_in 144 rfl rfl
theorem wL_X12_fails : Cond.selects RX12 yX12_fails yX12_fails ∈ lw_ok := lw_in 145 rfl rfl
theorem wL_X12_partOf : Cond.selects RX12 yX12_partOf yX12_partOf ∈ lw_ok := lw_in 146 rfl rfl
theorem wL_X12_attributes : Cond.selects RX12 yX12_attributes yX12_attributes ∈ lw_ok := lw_in 147 rfl rfl
theorem wL_X12_originRight : Cond.selects RX12 yX12_originRight yX12_originRight ∈ lw_ok := lw_in 148 rfl rfl
theorem wL_X12_wayRight : Cond.selects RX12 yX12_wayRight yX12_wayRight ∈ lw_ok := lw_in 149 rfl rfl
theorem wL_X12_costRight : Cond.selects RX12 yX12_costRight yX12_costRight ∈ lw_ok := lw_in 150 rfl rfl
theorem wL_X12_marksRight : Cond.selects RX12 yX12_marksRight yX12_marksRight ∈ lw_ok := lw_in 151 rfl rfl
theorem wL_X12_octet1 : Cond.selects RX12 yX12_octet1 yX12_octet1 ∈ lw_ok := lw_in 152 rfl rfl
theorem wL_X12_prefixOut : Cond.selects RX12 yX12_prefixOut yX12_prefixOut ∈ lw_ok := lw_in 153 rfl rfl
theorem wL_X12_octet4 : Cond.selects RX12 yX12_octet4 yX12_octet4 ∈ lw_ok := lw_in 154 rfl rfl
theorem wL_X12_goes : Cond.selects RX12 yX12_goes yX12_goes ∈ lw_ok := lw_in 155 rfl rfl
theorem wL_X12_sends : Cond.selects RX12 yX12_sends yX12_sends ∈ lw_ok := lw_in 156 rfl rfl
theorem wL_X12_nodeOf : Cond.selects RX12 yX12_nodeOf yX12_nodeOf ∈ lw_ok := lw_in 157 rfl rfl
theorem wL_X12_costOf : Cond.selects RX12 yX12_costOf yX12_costOf ∈ lw_ok := lw_in 158 rfl rfl
theorem wL_X12_isWished : Cond.selects RX12 yX12_isWished yX12_isWished ∈ lw_ok := lw_in 159 rfl rfl
theorem wL_X12_states : Cond.selects RX12 yX12_states yX12_states ∈ lw_ok := lw_in 160 rfl rfl
theorem wL_X12_isRest : Cond.selects RX12 yX12_isRest yX12_isRest ∈ lw_ok := lw_in 161 rfl rfl
theorem wL_X12_open : Cond.selects RX12 yX12_open yX12_open ∈ lw_ok := lw_in 162 rfl rfl
theorem wL_X12_acted : Cond.selects RX12 yX12_acted yX12_acted ∈ lw_ok := lw_in 163 rfl rfl
theorem wL_X12_isOffered : Cond.selects RX12 yX12_isOffered yX12_isOffered ∈ lw_ok := lw_in 164 rfl rfl
end
section
theorem wY_X0_0 : u_lay RX0 TX0 0 ∈ lw_ok := lw_i3 153 rfl rfl
theorem wY_X0_1 : u_lay RX0 TX0 1 ∈ lw_ok := lw_i3 155 rfl rfl
theorem wY_X0_2 : u_lay RX0 TX0 2 ∈ lw_ok := lw_i3 157 rfl rfl
theorem wY_X0_3 : u_lay RX0 TX0 3 ∈ lw_ok := lw_i3 159 rfl rfl
theorem wY_X0_4 : u_lay RX0 TX0 4 ∈ lw_ok := lw_i3 161 rfl rfl
theorem wY_X0_5 : u_lay RX0 TX0 5 ∈ lw_ok := lw_i3 163 rfl rfl
theorem gIX0 : ∀ w ∈ u_ws RX0 TX0 6, w ∈ lw_ok := List.forall_mem_cons.mpr ⟨wY_X0_0, List.forall_mem_cons.mpr ⟨wY_X0_1, List.forall_mem_cons.mpr ⟨wY_X0_2, List.forall_mem_cons.mpr ⟨wY_X0_3, List.forall_mem_cons.mpr ⟨wY_X0_4, List.forall_mem_cons.mpr ⟨wY_X0_5, fun _ h => absurd h List.not_mem_nil⟩⟩⟩⟩⟩⟩
theorem gCX0 (l : Launch) (D : va_G) (c : Nat → ClassId) (H0 : Heap) (sa : Nat × Nat × (Nat → Int32)) : sCl (gG l D c H0 sa) 0 (RX0, TX0, 6) tyX0 := ⟨rfl, gIX0, tyX0_ok, nmX0⟩
theorem wY_X1_0 : u_lay RX1 TX1 0 ∈ lw_ok := lw_i1 222 rfl rfl
theorem wY_X1_1 : u_lay RX1 TX1 1 ∈ lw_ok := lw_i1 224 rfl rfl
theorem wY_X1_2 : u_lay RX1 TX1 2 ∈ lw_ok := lw_i1 226 rfl rfl
theorem wY_X1_3 : u_lay RX1 TX1 3 ∈ lw_ok := lw_i1 228 rfl rfl
theorem wY_X1_4 : u_lay RX1 TX1 4 ∈ lw_ok := lw_i1 230 rfl rfl
theorem wY_X1_5 : u_lay RX1 TX1 5 ∈ lw_ok := lw_i1 232 rfl rfl
theorem wY_X1_6 : u_lay RX1 TX1 6 ∈ lw_ok := lw_i1 234 rfl rfl
theorem wY_X1_7 : u_lay RX1 TX1 7 ∈ lw_ok := lw_i1 236 rfl rfl
theorem wY_X1_8 : u_lay RX1 TX1 8 ∈ lw_ok := lw_i1 238 rfl rfl
theorem gIX1 : ∀ w ∈ u_ws RX1 TX1 9, w ∈ lw_ok := List.forall_mem_cons.mpr ⟨wY_X1_0, List.forall_mem_cons.mpr ⟨wY_X1_1, List.forall_mem_cons.mpr ⟨wY_X1_2, List.forall_mem_cons.mpr ⟨wY_X1_3, List.forall_mem_cons.mpr ⟨wY_X1_4, List.forall_mem_cons.mpr ⟨wY_X1_5, List.forall_mem_cons.mpr ⟨wY_X1_6, List.forall_mem_cons.mpr ⟨wY_X1_7, List.forall_mem_cons.mpr ⟨wY_X1_8, fun _ h => absurd h List.not_mem_nil⟩⟩⟩⟩⟩⟩⟩⟩⟩
theorem gCX1 (l : Launch) (D : va_G) (c : Nat → ClassId) (H0 : Heap) (sa : Nat × Nat × (Nat → Int32)) : sCl (gG l D c H0 sa) 1 (RX1, TX1, 9) tyX1 := ⟨rfl, gIX1, tyX1_ok, nmX1⟩
theorem wY_X2_0 : u_lay RX2 TX2 0 ∈ lw_ok := lw_i2 215 rfl rfl
theorem wY_X2_1 : u_lay RX2 TX2 1 ∈ lw_ok := lw_i2 217 rfl rfl
theorem wY_X2_2 : u_lay RX2 TX2 2 ∈ lw_ok := lw_i2 219 rfl rfl
theorem wY_X2_3 : u_lay RX2 TX2 3 ∈ lw_ok := lw_i2 221 rfl rfl
theorem wY_X2_4 : u_lay RX2 TX2 4 ∈ lw_ok := lw_i2 223 rfl rfl
theorem wY_X2_5 : u_lay RX2 TX2 5 ∈ lw_ok := lw_i2 225 rfl rfl
theorem wY_X2_6 : u_lay RX2 TX2 6 ∈ lw_ok := lw_i2 227 rfl rfl
theorem wY_X2_7 : u_lay RX2 TX2 7 ∈ lw_ok := lw_i2 229 rfl rfl
theorem wY_X2_8 : u_lay RX2 TX2 8 ∈ lw_ok := lw_i2 231 rfl rfl
theorem wY_X2_9 : u_lay RX2 TX2 9 ∈ lw_ok := lw_i2 233 rfl rfl
theorem wY_X2_10 : u_lay RX2 TX2 10 ∈ lw_ok := lw_i2 235 rfl rfl
theorem gIX2 : ∀ w ∈ u_ws RX2 TX2 11, w ∈ lw_ok := List.forall_mem_cons.mpr ⟨wY_X2_0, List.forall_mem_cons.mpr ⟨wY_X2_1, List.forall_mem_cons.mpr ⟨wY_X2_2, List.forall_mem_cons.mpr ⟨wY_X2_3, List.forall_mem_cons.mpr ⟨wY_X2_4, List.forall_mem_cons.mpr ⟨wY_X2_5, List.forall_mem_cons.mpr ⟨wY_X2_6, List.forall_mem_cons.mpr ⟨wY_X2_7, List.forall_mem_cons.mpr ⟨wY_X2_8, List.forall_mem_cons.mpr ⟨wY_X2_9, List.forall_mem_cons.mpr ⟨wY_X2_10, fun _ h => absurd h List.not_mem_nil⟩⟩⟩⟩⟩⟩⟩⟩⟩⟩⟩
theorem gCX2 (l : Launch) (D : va_G) (c : Nat → ClassId) (H0 : Heap) (sa : Nat × Nat × (Nat → Int32)) : sCl (gG l D c H0 sa) 2 (RX2, TX2, 11) tyX2 := ⟨rfl, gIX2, tyX2_ok, nmX2⟩
theorem wY_X3_0 : u_lay RX3 TX3 0 ∈ lw_ok := lw_i2 160 rfl rfl
theorem wY_X3_1 : u_lay RX3 TX3 1 ∈ lw_ok := lw_i2 162 rfl rfl
theorem wY_X3_2 : u_lay RX3 TX3 2 ∈ lw_ok := lw_i2 164 rfl rfl
theorem wY_X3_3 : u_lay RX3 TX3 3 ∈ lw_ok := lw_i2 166 rfl rfl
theorem wY_X3_4 : u_lay RX3 TX3 4 ∈ lw_ok := lw_i2 168 rfl rfl
theorem wY_X3_5 : u_lay RX3 TX3 5 ∈ lw_ok := lw_i2 170 rfl rfl
theorem wY_X3_6 : u_lay RX3 TX3 6 ∈ lw_ok := lw_i2 172 rfl rfl
theorem wY_X3_7 : u_lay RX3 TX3 7 ∈ lw_ok := lw_i2 174 rfl rfl
theorem wY_X3_8 : u_lay RX3 TX3 8 ∈ lw_ok := lw_i2 176 rfl rfl
theorem wY_X3_9 : u_lay RX3 TX3 9 ∈ lw_ok := lw_i2 178 rfl rfl
theorem wY_X3_10 : u_lay RX3 TX3 10 ∈ lw_ok := lw_i2 180 rfl rfl
theorem wY_X3_11 : u_lay RX3 TX3 11 ∈ lw_ok := lw_i2 182 rfl rfl
theorem wY_X3_12 : u_lay RX3 TX3 12 ∈ lw_ok := lw_i2 184 rfl rfl
theorem wY_X3_13 : u_lay RX3 TX3 13 ∈ lw_ok := lw_i2 186 rfl rfl
theorem wY_X3_14 : u_lay RX3 TX3 14 ∈ lw_ok := lw_i2 188 rfl rfl
theorem wY_X3_15 : u_lay RX3 TX3 15 ∈ lw_ok := lw_i2 190 rfl rfl
theorem wY_X3_16 : u_lay RX3 TX3 16 ∈ lw_ok := lw_i2 192 rfl rfl
theorem gIX3 : ∀ w ∈ u_ws RX3 TX3 17, w ∈ lw_ok := List.forall_mem_cons.mpr ⟨wY_X3_0, List.forall_mem_cons.mpr ⟨wY_X3_1, List.forall_mem_cons.mpr ⟨wY_X3_2, List.forall_mem_cons.mpr ⟨wY_X3_3, List.forall_mem_cons.mpr ⟨wY_X3_4, List.forall_mem_cons.mpr ⟨wY_X3_5, List.forall_mem_cons.mpr ⟨wY_X3_6, List.forall_mem_cons.mpr ⟨wY_X3_7, List.forall_mem_cons.mpr ⟨wY_X3_8, List.forall_mem_cons.mpr ⟨wY_X3_9, List.forall_mem_cons.mpr ⟨wY_X3_10, List.forall_mem_cons.mpr ⟨wY_X3_11, List.forall_mem_cons.mpr ⟨wY_X3_12, List.forall_mem_cons.mpr ⟨wY_X3_13, List.forall_mem_cons.mpr ⟨wY_X3_14, List.forall_mem_cons.mpr ⟨wY_X3_15, List.forall_mem_cons.mpr ⟨wY_X3_16, fun _ h => absurd h List.not_mem_nil⟩⟩⟩⟩⟩⟩⟩⟩⟩⟩⟩⟩⟩⟩⟩⟩⟩
theorem gCX3 (l : Launch) (D : va_G) (c : Nat → ClassId) (H0 : Heap) (sa : Nat × Nat × (Nat → Int32)) : sCl (gG l D c H0 sa) 3 (RX3, TX3, 17) tyX3 := ⟨rfl, gIX3, tyX3_ok, nmX3⟩
theorem wY_X4_0 : u_lay RX4 TX4 0 ∈ lw_ok := lw_i3 22 rfl rfl
theorem wY_X4_1 : u_lay RX4 TX4 1 ∈ lw_ok := lw_i3 24 rfl rfl
theorem wY_X4_2 : u_lay RX4 TX4 2 ∈ lw_ok := lw_i3 26 rfl rfl
theorem wY_X4_3 : u_lay RX4 TX4 3 ∈ lw_ok := lw_i3 28 rfl rfl
theorem wY_X4_4 : u_lay RX4 TX4 4 ∈ lw_ok := lw_i3 30 rfl rfl
theorem wY_X4_5 : u_lay RX4 TX4 5 ∈ lw_ok := lw_i3 32 rfl rfl
theorem wY_X4_6 : u_lay RX4 TX4 6 ∈ lw_ok := lw_i3 34 rfl rfl
theorem wY_X4_7 : u_lay RX4 TX4 7 ∈ lw_ok := lw_i3 36 rfl rfl
theorem wY_X4_8 : u_lay RX4 TX4 8 ∈ lw_ok := lw_i3 38 rfl rfl
theorem wY_X4_9 : u_lay RX4 TX4 9 ∈ lw_ok := lw_i3 40 rfl rfl
theorem wY_X4_10 : u_lay RX4 TX4 10 ∈ lw_ok := lw_i3 42 rfl rfl
theorem wY_X4_11 : u_lay RX4 TX4 11 ∈ lw_ok := lw_i3 44 rfl rfl
theorem wY_X4_12 : u_lay RX4 TX4 12 ∈ lw_ok := lw_i3 46 rfl rfl
theorem wY_X4_13 : u_lay RX4 TX4 13 ∈ lw_ok := lw_i3 48 rfl rfl
theorem wY_X4_14 : u_lay RX4 TX4 14 ∈ lw_ok := lw_i3 50 rfl rfl
theorem gIX4 : ∀ w ∈ u_ws RX4 TX4 15, w ∈ lw_ok := List.forall_mem_cons.mpr ⟨wY_X4_0, List.forall_mem_cons.mpr ⟨wY_X4_1, List.forall_mem_cons.mpr ⟨wY_X4_2, List.forall_mem_cons.mpr ⟨wY_X4_3, List.forall_mem_cons.mpr ⟨wY_X4_4, List.forall_mem_cons.mpr ⟨wY_X4_5, List.forall_mem_cons.mpr ⟨wY_X4_6, List.forall_mem_cons.mpr ⟨wY_X4_7, List.forall_mem_cons.mpr ⟨wY_X4_8, List.forall_mem_cons.mpr ⟨wY_X4_9, List.forall_mem_cons.mpr ⟨wY_X4_10, List.forall_mem_cons.mpr ⟨wY_X4_11, List.forall_mem_cons.mpr ⟨wY_X4_12, List.forall_mem_cons.mpr ⟨wY_X4_13, List.forall_mem_cons.mpr ⟨wY_X4_14, fun _ h => absurd h List.not_mem_nil⟩⟩⟩⟩⟩⟩⟩⟩⟩⟩⟩⟩⟩⟩⟩
theorem gCX4 (l : Launch) (D : va_G) (c : Nat → ClassId) (H0 : Heap) (sa : Nat × Nat × (Nat → Int32)) : sCl (gG l D c H0 sa) 4 (RX4, TX4, 15) tyX4 := ⟨rfl, gIX4, tyX4_ok, nmX4⟩
theorem wY_X5_0 : u_lay RX5 TX5 0 ∈ lw_ok := lw_i5 225 rfl rfl
theorem wY_X5_1 : u_lay RX5 TX5 1 ∈ lw_ok := lw_i5 227 rfl rfl
theorem wY_X5_2 : u_lay RX5 TX5 2 ∈ lw_ok := lw_i5 229 rfl rfl
theorem wY_X5_3 : u_lay RX5 TX5 3 ∈ lw_ok := lw_i5 231 rfl rfl
theorem wY_X5_4 : u_lay RX5 TX5 4 ∈ lw_ok := lw_i5 233 rfl rfl
theorem wY_X5_5 : u_lay RX5 TX5 5 ∈ lw_ok := lw_i5 235 rfl rfl
theorem gIX5 : ∀ w ∈ u_ws RX5 TX5 6, w ∈ lw_ok := List.forall_mem_cons.mpr ⟨wY_X5_0, List.forall_mem_cons.mpr ⟨wY_X5_1, List.forall_mem_cons.mpr ⟨wY_X5_2, List.forall_mem_cons.mpr ⟨wY_X5_3, List.forall_mem_cons.mpr ⟨wY_X5_4, List.forall_mem_cons.mpr ⟨wY_X5_5, fun _ h => absurd h List.not_mem_nil⟩⟩⟩⟩⟩⟩
theorem gCX5 (l : Launch) (D : va_G) (c : Nat → ClassId) (H0 : Heap) (sa : Nat × Nat × (Nat → Int32)) : sCl (gG l D c H0 sa) 5 (RX5, TX5, 6) tyX5 := ⟨rfl, gIX5, tyX5_ok, nmX5⟩
theorem wY_X6_0 : u_lay RX6 TX6 0 ∈ lw_ok := lw_i2 29 rfl rfl
theorem wY_X6_1 : u_lay RX6 TX6 1 ∈ lw_ok := lw_i2 31 rfl rfl
theorem wY_X6_2 : u_lay RX6 TX6 2 ∈ lw_ok := lw_i2 33 rfl rfl
theorem wY_X6_3 : u_lay RX6 TX6 3 ∈ lw_ok := lw_i2 35 rfl rfl
theorem wY_X6_4 : u_lay RX6 TX6 4 ∈ lw_ok := lw_i2 37 rfl rfl
theorem wY_X6_5 : u_lay RX6 TX6 5 ∈ lw_ok := lw_i2 39 rfl rfl
theorem wY_X6_6 : u_lay RX6 TX6 6 ∈ lw_ok := lw_i2 41 rfl rfl
theorem wY_X6_7 : u_lay RX6 TX6 7 ∈ lw_ok := lw_i2 43 rfl rfl
theorem wY_X6_8 : u_lay RX6 TX6 8 ∈ lw_ok := lw_i2 45 rfl rfl
theorem wY_X6_9 : u_lay RX6 TX6 9 ∈ lw_ok := lw_i2 47 rfl rfl
theorem wY_X6_10 : u_lay RX6 TX6 10 ∈ lw_ok := lw_i2 49 rfl rfl
theorem wY_X6_11 : u_lay RX6 TX6 11 ∈ lw_ok := lw_i2 51 rfl rfl
theorem wY_X6_12 : u_lay RX6 TX6 12 ∈ lw_ok := lw_i2 53 rfl rfl
theorem wY_X6_13 : u_lay RX6 TX6 13 ∈ lw_ok := lw_i2 55 rfl rfl
theorem wY_X6_14 : u_lay RX6 TX6 14 ∈ lw_ok := lw_i2 57 rfl rfl
theorem wY_X6_15 : u_lay RX6 TX6 15 ∈ lw_ok := lw_i2 59 rfl rfl
theorem wY_X6_16 : u_lay RX6 TX6 16 ∈ lw_ok := lw_i2 61 rfl rfl
theorem wY_X6_17 : u_lay RX6 TX6 17 ∈ lw_ok := lw_i2 63 rfl rfl
theorem wY_X6_18 : u_lay RX6 TX6 18 ∈ lw_ok := lw_i2 65 rfl rfl
theorem wY_X6_19 : u_lay RX6 TX6 19 ∈ lw_ok := lw_i2 67 rfl rfl
theorem gIX6 : ∀ w ∈ u_ws RX6 TX6 20, w ∈ lw_ok := List.forall_mem_cons.mpr ⟨wY_X6_0, List.forall_mem_cons.mpr ⟨wY_X6_1, List.forall_mem_cons.mpr ⟨wY_X6_2, List.forall_mem_cons.mpr ⟨wY_X6_3, List.forall_mem_cons.mpr ⟨wY_X6_4, List.forall_mem_cons.mpr ⟨wY_X6_5, List.forall_mem_cons.mpr ⟨wY_X6_6, List.forall_mem_cons.mpr ⟨wY_X6_7, List.forall_mem_cons.mpr ⟨wY_X6_8, List.forall_mem_cons.mpr ⟨wY_X6_9, List.forall_mem_cons.mpr ⟨wY_X6_10, List.forall_mem_cons.mpr ⟨wY_X6_11, List.forall_mem_cons.mpr ⟨wY_X6_12, List.forall_mem_cons.mpr ⟨wY_X6_13, List.forall_mem_cons.mpr ⟨wY_X6_14, List.forall_mem_cons.mpr ⟨wY_X6_15, List.forall_mem_cons.mpr ⟨wY_X6_16, List.forall_mem_cons.mpr ⟨wY_X6_17, List.forall_mem_cons.mpr ⟨wY_X6_18, List.forall_mem_cons.mpr ⟨wY_X6_19, fun _ h => absurd h List.not_mem_nil⟩⟩⟩⟩⟩⟩⟩⟩⟩⟩⟩⟩⟩⟩⟩⟩⟩⟩⟩⟩
theorem gCX6 (l : Launch) (D : va_G) (c : Nat → ClassId) (H0 : Heap) (sa : Nat × Nat × (Nat → Int32)) : sCl (gG l D c H0 sa) 6 (RX6, TX6, 20) tyX6 := ⟨rfl, gIX6, tyX6_ok, nmX6⟩
theorem wY_X7_0 : u_lay RX7 TX7 0 ∈ lw_ok := lw_i1 85 rfl rfl
theorem wY_X7_1 : u_lay RX7 TX7 1 ∈ lw_ok := lw_i1 87 rfl rfl
theorem wY_X7_2 : u_lay RX7 TX7 2 ∈ lw_ok := lw_i1 89 rfl rfl
theorem wY_X7_3 : u_lay RX7 TX7 3 ∈ lw_ok := lw_i1 91 rfl rfl
theorem wY_X7_4 : u_lay RX7 TX7 4 ∈ lw_ok := lw_i1 93 rfl rfl
theorem wY_X7_5 : u_lay RX7 TX7 5 ∈ lw_ok := lw_i1 95 rfl rfl
theorem wY_X7_6 : u_lay RX7 TX7 6 ∈ lw_ok := lw_i1 97 rfl rfl
theorem wY_X7_7 : u_lay RX7 TX7 7 ∈ lw_ok := lw_i1 99 rfl rfl
theorem wY_X7_8 : u_lay RX7 TX7 8 ∈ lw_ok := lw_i1 101 rfl rfl
theorem wY_X7_9 : u_lay RX7 TX7 9 ∈ lw_ok := lw_i1 103 rfl rfl
theorem wY_X7_10 : u_lay RX7 TX7 10 ∈ lw_ok := lw_i1 105 rfl rfl
theorem wY_X7_11 : u_lay RX7 TX7 11 ∈ lw_ok := lw_i1 107 rfl rfl
theorem gIX7 : ∀ w ∈ u_ws RX7 TX7 12, w ∈ lw_ok := List.forall_mem_cons.mpr ⟨wY_X7_0, List.forall_mem_cons.mpr ⟨wY_X7_1, List.forall_mem_cons.mpr ⟨wY_X7_2, List.forall_mem_cons.mpr ⟨wY_X7_3, List.forall_mem_cons.mpr ⟨wY_X7_4, List.forall_mem_cons.mpr ⟨wY_X7_5, List.forall_mem_cons.mpr ⟨wY_X7_6, List.forall_mem_cons.mpr ⟨wY_X7_7, List.forall_mem_cons.mpr ⟨wY_X7_8, List.forall_mem_cons.mpr ⟨wY_X7_9, List.forall_mem_cons.mpr ⟨wY_X7_10, List.forall_mem_cons.mpr ⟨wY_X7_11, fun _ h => absurd h List.not_mem_nil⟩⟩⟩⟩⟩⟩⟩⟩⟩⟩⟩⟩
theorem gCX7 (l : Launch) (D : va_G) (c : Nat → ClassId) (H0 : Heap) (sa : Nat × Nat × (Nat → Int32)) : sCl (gG l D c H0 sa) 7 (RX7, TX7, 12) tyX7 := ⟨rfl, gIX7, tyX7_ok, nmX7⟩
theorem wY_X8_0 : u_lay RX8 TX8 0 ∈ lw_ok := lw_i2 99 rfl rfl
theorem wY_X8_1 : u_lay RX8 TX8 1 ∈ lw_ok := lw_i2 101 rfl rfl
theorem wY_X8_2 : u_lay RX8 TX8 2 ∈ lw_ok := lw_i2 103 rfl rfl
theorem wY_X8_3 : u_lay RX8 TX8 3 ∈ lw_ok := lw_i2 105 rfl rfl
theorem wY_X8_4 : u_lay RX8 TX8 4 ∈ lw_ok := lw_i2 107 rfl rfl
theorem wY_X8_5 : u_lay RX8 TX8 5 ∈ lw_ok := lw_i2 109 rfl rfl
theorem wY_X8_6 : u_lay RX8 TX8 6 ∈ lw_ok := lw_i2 111 rfl rfl
theorem wY_X8_7 : u_lay RX8 TX8 7 ∈ lw_ok := lw_i2 113 rfl rfl
theorem wY_X8_8 : u_lay RX8 TX8 8 ∈ lw_ok := lw_i2 115 rfl rfl
theorem wY_X8_9 : u_lay RX8 TX8 9 ∈ lw_ok := lw_i2 117 rfl rfl
theorem wY_X8_10 : u_lay RX8 TX8 10 ∈ lw_ok := lw_i2 119 rfl rfl
theorem wY_X8_11 : u_lay RX8 TX8 11 ∈ lw_ok := lw_i2 121 rfl rfl
theorem wY_X8_12 : u_lay RX8 TX8 12 ∈ lw_ok := lw_i2 123 rfl rfl
theorem gIX8 : ∀ w ∈ u_ws RX8 TX8 13, w ∈ lw_ok := List.forall_mem_cons.mpr ⟨wY_X8_0, List.forall_mem_cons.mpr ⟨wY_X8_1, List.forall_mem_cons.mpr ⟨wY_X8_2, List.forall_mem_cons.mpr ⟨wY_X8_3, List.forall_mem_cons.mpr ⟨wY_X8_4, List.forall_mem_cons.mpr ⟨wY_X8_5, List.forall_mem_cons.mpr ⟨wY_X8_6, List.forall_mem_cons.mpr ⟨wY_X8_7, List.forall_mem_cons.mpr ⟨wY_X8_8, List.forall_mem_cons.mpr ⟨wY_X8_9, List.forall_mem_cons.mpr ⟨wY_X8_10, List.forall_mem_cons.mpr ⟨wY_X8_11, List.forall_mem_cons.mpr ⟨wY_X8_12, fun _ h => absurd h List.not_mem_nil⟩⟩⟩⟩⟩⟩⟩⟩⟩⟩⟩⟩⟩
theorem gCX8 (l : Launch) (D : va_G) (c : Nat → ClassId) (H0 : Heap) (sa : Nat × Nat × (Nat → Int32)) : sCl (gG l D c H0 sa) 8 (RX8, TX8, 13) tyX8 := ⟨rfl, gIX8, tyX8_ok, nmX8⟩
theorem wY_X9_0 : u_lay RX9 TX9 0 ∈ lw_ok := lw_i3 215 rfl rfl
theorem wY_X9_1 : u_lay RX9 TX9 1 ∈ lw_ok := lw_i3 217 rfl rfl
theorem wY_X9_2 : u_lay RX9 TX9 2 ∈ lw_ok := lw_i3 219 rfl rfl
theorem wY_X9_3 : u_lay RX9 TX9 3 ∈ lw_ok := lw_i3 221 rfl rfl
theorem wY_X9_4 : u_lay RX9 TX9 4 ∈ lw_ok := lw_i3 223 rfl rfl
theorem wY_X9_5 : u_lay RX9 TX9 5 ∈ lw_ok := lw_i3 225 rfl rfl
theorem wY_X9_6 : u_lay RX9 TX9 6 ∈ lw_ok := lw_i3 227 rfl rfl
theorem wY_X9_7 : u_lay RX9 TX9 7 ∈ lw_ok := lw_i3 229 rfl rfl
theorem wY_X9_8 : u_lay RX9 TX9 8 ∈ lw_ok := lw_i3 231 rfl rfl
theorem gIX9 : ∀ w ∈ u_ws RX9 TX9 9, w ∈ lw_ok := List.forall_mem_cons.mpr ⟨wY_X9_0, List.forall_mem_cons.mpr ⟨wY_X9_1, List.forall_mem_cons.mpr ⟨wY_X9_2, List.forall_mem_cons.mpr ⟨wY_X9_3, List.forall_mem_cons.mpr ⟨wY_X9_4, List.forall_mem_cons.mpr ⟨wY_X9_5, List.forall_mem_cons.mpr ⟨wY_X9_6, List.forall_mem_cons.mpr ⟨wY_X9_7, List.forall_mem_cons.mpr ⟨wY_X9_8, fun _ h => absurd h List.not_mem_nil⟩⟩⟩⟩⟩⟩⟩⟩⟩
theorem gCX9 (l : Launch) (D : va_G) (c : Nat → ClassId) (H0 : Heap) (sa : Nat × Nat × (Nat → Int32)) : sCl (gG l D c H0 sa) 9 (RX9, TX9, 9) tyX9 := ⟨rfl, gIX9, tyX9_ok, nmX9⟩
theorem wY_X10_0 : u_lay RX10 TX10 0 ∈ lw_ok := lw_i1 165 rfl rfl
theorem wY_X10_1 : u_lay RX10 TX10 1 ∈ lw_ok := lw_i1 167 rfl rfl
theorem wY_X10_2 : u_lay RX10 TX10 2 ∈ lw_ok := lw_i1 169 rfl rfl
theorem wY_X10_3 : u_lay RX10 TX10 3 ∈ lw_ok := lw_i1 171 rfl rfl
theorem wY_X10_4 : u_lay RX10 TX10 4 ∈ lw_ok := lw_i1 173 rfl rfl
theorem wY_X10_5 : u_lay RX10 TX10 5 ∈ lw_ok := lw_i1 175 rfl rfl
theorem wY_X10_6 : u_lay RX10 TX10 6 ∈ lw_ok := lw_i1 177 rfl rfl
theorem wY_X10_7 : u_lay RX10 TX10 7 ∈ lw_ok := lw_i1 179 rfl rfl
theorem wY_X10_8 : u_lay RX10 TX10 8 ∈ lw_ok := lw_i1 181 rfl rfl
theorem wY_X10_9 : u_lay RX10 TX10 9 ∈ lw_ok := lw_i1 183 rfl rfl
theorem wY_X10_10 : u_lay RX10 TX10 10 ∈ lw_ok := lw_i1 185 rfl rfl
theorem wY_X10_11 : u_lay RX10 TX10 11 ∈ lw_ok := lw_i1 187 rfl rfl
theorem wY_X10_12 : u_lay RX10 TX10 12 ∈ lw_ok := lw_i1 189 rfl rfl
theorem wY_X10_13 : u_lay RX10 TX10 13 ∈ lw_ok := lw_i1 191 rfl rfl
theorem wY_X10_14 : u_lay RX10 TX10 14 ∈ lw_ok := lw_i1 193 rfl rfl
theorem wY_X10_15 : u_lay RX10 TX10 15 ∈ lw_ok := lw_i1 195 rfl rfl
theorem wY_X10_16 : u_lay RX10 TX10 16 ∈ lw_ok := lw_i1 197 rfl rfl
theorem wY_X10_17 : u_lay RX10 TX10 17 ∈ lw_ok := lw_i1 199 rfl rfl
theorem wY_X10_18 : u_lay RX10 TX10 18 ∈ lw_ok := lw_i1 201 rfl rfl
theorem gIX10 : ∀ w ∈ u_ws RX10 TX10 19, w ∈ lw_ok := List.forall_mem_cons.mpr ⟨wY_X10_0, List.forall_mem_cons.mpr ⟨wY_X10_1, List.forall_mem_cons.mpr ⟨wY_X10_2, List.forall_mem_cons.mpr ⟨wY_X10_3, List.forall_mem_cons.mpr ⟨wY_X10_4, List.forall_mem_cons.mpr ⟨wY_X10_5, List.forall_mem_cons.mpr ⟨wY_X10_6, List.forall_mem_cons.mpr ⟨wY_X10_7, List.forall_mem_cons.mpr ⟨wY_X10_8, List.forall_mem_cons.mpr ⟨wY_X10_9, List.forall_mem_cons.mpr ⟨wY_X10_10, List.forall_mem_cons.mpr ⟨wY_X10_11, List.forall_mem_cons.mpr ⟨wY_X10_12, List.forall_mem_cons.mpr ⟨wY_X10_13, List.forall_mem_cons.mpr ⟨wY_X10_14, List.forall_mem_cons.mpr ⟨wY_X10_15, List.forall_mem_cons.mpr ⟨wY_X10_16, List.forall_mem_cons.mpr ⟨wY_X10_17, List.forall_mem_cons.mpr ⟨wY_X10_18, fun _ h => absurd h List.not_mem_nil⟩⟩⟩⟩⟩⟩⟩⟩⟩⟩⟩⟩⟩⟩⟩⟩⟩⟩⟩
theorem gCX10 (l : Launch) (D : va_G) (c : Nat → ClassId) (H0 : Heap) (sa : Nat × Nat × (Nat → Int32)) : sCl (gG l D c H0 sa) 10 (RX10, TX10, 19) tyX10 := ⟨rfl, gIX10, tyX10_ok, nmX10⟩
theorem wY_X11_0 : u_lay RX11 TX11 0 ∈ lw_ok := lw_i3 66 rfl rfl
theorem wY_X11_1 : u_lay RX11 TX11 1 ∈ lw_ok := lw_i3 68 rfl rfl
theorem wY_X11_2 : u_lay RX11 TX11 2 ∈ lw_ok := lw_i3 70 rfl rfl
theorem wY_X11_3 : u_lay RX11 TX11 3 ∈ lw_ok := lw_i3 72 rfl rfl
theorem wY_X11_4 : u_lay RX11 TX11 4 ∈ lw_ok := lw_i3 74 rfl rfl
theorem wY_X11_5 : u_lay RX11 TX11 5 ∈ lw_ok := lw_i3 76 rfl rfl
theorem wY_X11_6 : u_lay RX11 TX11 6 ∈ lw_ok := lw_i3 78 rfl rfl
theorem wY_X11_7 : u_lay RX11 TX11 7 ∈ lw_ok := lw_i3 80 rfl rfl
theorem wY_X11_8 : u_lay RX11 TX11 8 ∈ lw_ok := lw_i3 82 rfl rfl
theorem wY_X11_9 : u_lay RX11 TX11 9 ∈ lw_ok := lw_i3 84 rfl rfl
theorem wY_X11_10 : u_lay RX11 TX11 10 ∈ lw_ok := lw_i3 86 rfl rfl
theorem wY_X11_11 : u_lay RX11 TX11 11 ∈ lw_ok := lw_i3 88 rfl rfl
theorem gIX11 : ∀ w ∈ u_ws RX11 TX11 12, w ∈ lw_ok := List.forall_mem_cons.mpr ⟨wY_X11_0, List.forall_mem_cons.mpr ⟨wY_X11_1, List.forall_mem_cons.mpr ⟨wY_X11_2, List.forall_mem_cons.mpr ⟨wY_X11_3, List.forall_mem_cons.mpr ⟨wY_X11_4, List.forall_mem_cons.mpr ⟨wY_X11_5, List.forall_mem_cons.mpr ⟨wY_X11_6, List.forall_mem_cons.mpr ⟨wY_X11_7, List.forall_mem_cons.mpr ⟨wY_X11_8, List.forall_mem_cons.mpr ⟨wY_X11_9, List.forall_mem_cons.mpr ⟨wY_X11_10, List.forall_mem_cons.mpr ⟨wY_X11_11, fun _ h => absurd h List.not_mem_nil⟩⟩⟩⟩⟩⟩⟩⟩⟩⟩⟩⟩
theorem gCX11 (l : Launch) (D : va_G) (c : Nat → ClassId) (H0 : Heap) (sa : Nat × Nat × (Nat → Int32)) : sCl (gG l D c H0 sa) 11 (RX11, TX11, 12) tyX11 := ⟨rfl, gIX11, tyX11_ok, nmX11⟩
theorem wY_X12_0 : u_lay RX12 TX12 0 ∈ lw_ok := lw_i9 196 rfl rfl
theorem wY_X12_1 : u_lay RX12 TX12 1 ∈ lw_ok := lw_i9 198 rfl rfl
theorem wY_X12_2 : u_lay RX12 TX12 2 ∈ lw_ok := lw_i9 200 rfl rfl
theorem wY_X12_3 : u_lay RX12 TX12 3 ∈ lw_ok := lw_i9 202 rfl rfl
theorem wY_X12_4 : u_lay RX12 TX12 4 ∈ lw_ok := lw_i9 204 rfl rfl
theorem wY_X12_5 : u_lay RX12 TX12 5 ∈ lw_ok := lw_i9 206 rfl rfl
theorem wY_X12_6 : u_lay RX12 TX12 6 ∈ lw_ok := lw_i9 208 rfl rfl
theorem wY_X12_7 : u_lay RX12 TX12 7 ∈ lw_ok := lw_i9 210 rfl rfl
theorem wY_X12_8 : u_lay RX12 TX12 8 ∈ lw_ok := lw_i9 212 rfl rfl
theorem wY_X12_9 : u_lay RX12 TX12 9 ∈ lw_ok := lw_i9 214 rfl rfl
theorem wY_X12_10 : u_lay RX12 TX12 10 ∈ lw_ok := lw_i9 216 rfl rfl
theorem wY_X12_11 : u_lay RX12 TX12 11 ∈ lw_ok := lw_i9 218 rfl rfl
theorem wY_X12_12 : u_lay RX12 TX12 12 ∈ lw_ok := lw_i9 220 rfl rfl
theorem wY_X12_13 : u_lay RX12 TX12 13 ∈ lw_ok := lw_i9 222 rfl rfl
theorem wY_X12_14 : u_lay RX12 TX12 14 ∈ lw_ok := lw_i9 224 rfl rfl
theorem wY_X12_15 : u_lay RX12 TX12 15 ∈ lw_ok := lw_i9 226 rfl rfl
theorem wY_X12_16 : u_lay RX12 TX12 16 ∈ lw_ok := lw_i9 228 rfl rfl
theorem wY_X12_17 : u_lay RX12 TX12 17 ∈ lw_ok := lw_i9 230 rfl rfl
theorem wY_X12_18 : u_lay RX12 TX12 18 ∈ lw_ok := lw_i9 232 rfl rfl
theorem wY_X12_19 : u_lay RX12 TX12 19 ∈ lw_ok := lw_i9 234 rfl rfl
theorem wY_X12_20 : u_lay RX12 TX12 20 ∈ lw_ok := lw_i9 236 rfl rfl
theorem wY_X12_21 : u_lay RX12 TX12 21 ∈ lw_ok := lw_i9 238 rfl rfl
theorem wY_X12_22 : u_lay RX12 TX12 22 ∈ lw_ok := lw_i10 0 rfl rfl
theorem wY_X12_23 : u_lay RX12 TX12 23 ∈ lw_ok := lw_i10 2 rfl rfl
theorem wY_X12_24 : u_lay RX12 TX12 24 ∈ lw_ok := lw_i10 4 rfl rfl
theorem wY_X12_25 : u_lay RX12 TX12 25 ∈ lw_ok := lw_i10 6 rfl rfl
theorem wY_X12_26 : u_lay RX12 TX12 26 ∈ lw_ok := lw_i10 8 rfl rfl
theorem wY_X12_27 : u_lay RX12 TX12 27 ∈ lw_ok := lw_i10 10 rfl rfl
theorem wY_X12_28 : u_lay RX12 TX12 28 ∈ lw_ok := lw_i10 12 rfl rfl
theorem wY_X12_29 : u_lay RX12 TX12 29 ∈ lw_ok := lw_i10 14 rfl rfl
theorem wY_X12_30 : u_lay RX12 TX12 30 ∈ lw_ok := lw_i10 16 rfl rfl
theorem wY_X12_31 : u_lay RX12 TX12 31 ∈ lw_ok := lw_i10 18 rfl rfl
theorem wY_X12_32 : u_lay RX12 TX12 32 ∈ lw_ok := lw_i10 20 rfl rfl
theorem wY_X12_33 : u_lay RX12 TX12 33 ∈ lw_ok := lw_i10 22 rfl rfl
theorem wY_X12_34 : u_lay RX12 TX12 34 ∈ lw_ok := lw_i10 24 rfl rfl
theorem wY_X12_35 : u_lay RX12 TX12 35 ∈ lw_ok := lw_i10 26 rfl rfl
theorem wY_X12_36 : u_lay RX12 TX12 36 ∈ lw_ok := lw_i10 28 rfl rfl
theorem wY_X12_37 : u_lay RX12 TX12 37 ∈ lw_ok := lw_i10 30 rfl rfl
theorem wY_X12_38 : u_lay RX12 TX12 38 ∈ lw_ok := lw_i10 32 rfl rfl
theorem wY_X12_39 : u_lay RX12 TX12 39 ∈ lw_ok := lw_i10 34 rfl rfl
theorem wY_X12_40 : u_lay RX12 TX12 40 ∈ lw_ok := lw_i10 36 rfl rfl
theorem wY_X12_41 : u_lay RX12 TX12 41 ∈ lw_ok := lw_i10 38 rfl rfl
theorem wY_X12_42 : u_lay RX12 TX12 42 ∈ lw_ok := lw_i10 40 rfl rfl
theorem wY_X12_43 : u_lay RX12 TX12 43 ∈ lw_ok := lw_i10 42 rfl rfl
theorem wY_X12_44 : u_lay RX12 TX12 44 ∈ lw_ok := lw_i10 44 rfl rfl
theorem wY_X12_45 : u_lay RX12 TX12 45 ∈ lw_ok := lw_i10 46 rfl rfl
theorem wY_X12_46 : u_lay RX12 TX12 46 ∈ lw_ok := lw_i10 48 rfl rfl
theorem wY_X12_47 : u_lay RX12 TX12 47 ∈ lw_ok := lw_i10 50 rfl rfl
theorem wY_X12_48 : u_lay RX12 TX12 48 ∈ lw_ok := lw_i10 52 rfl rfl
theorem wY_X12_49 : u_lay RX12 TX12 49 ∈ lw_ok := lw_i10 54 rfl rfl
theorem wY_X12_50 : u_lay RX12 TX12 50 ∈ lw_ok := lw_i10 56 rfl rfl
theorem wY_X12_51 : u_lay RX12 TX12 51 ∈ lw_ok := lw_i10 58 rfl rfl
theorem wY_X12_52 : u_lay RX12 TX12 52 ∈ lw_ok := lw_i10 60 rfl rfl
theorem wY_X12_53 : u_lay RX12 TX12 53 ∈ lw_ok := lw_i10 62 rfl rfl
theorem wY_X12_54 : u_lay RX12 TX12 54 ∈ lw_ok := lw_i10 64 rfl rfl
theorem wY_X12_55 : u_lay RX12 TX12 55 ∈ lw_ok := lw_i10 66 rfl rfl
theorem wY_X12_56 : u_lay RX12 TX12 56 ∈ lw_ok := lw_i10 68 rfl rfl
theorem wY_X12_57 : u_lay RX12 TX12 57 ∈ lw_ok := lw_i10 70 rfl rfl
theorem wY_X12_58 : u_lay RX12 TX12 58 ∈ lw_ok := lw_i10 72 rfl rfl
theorem wY_X12_59 : u_lay RX12 TX12 59 ∈ lw_ok := lw_i10 74 rfl rfl
theorem wY_X12_60 : u_lay RX12 TX12 60 ∈ lw_ok := lw_i10 76 rfl rfl
theorem wY_X12_61 : u_lay RX12 TX12 61 ∈ lw_ok := lw_i10 78 rfl rfl
theorem wY_X12_62 : u_lay RX12 TX12 62 ∈ lw_ok := lw_i10 80 rfl rfl
theorem wY_X12_63 : u_lay RX12 TX12 63 ∈ lw_ok := lw_i10 82 rfl rfl
theorem wY_X12_64 : u_lay RX12 TX12 64 ∈ lw_ok := lw_i10 84 rfl rfl
theorem wY_X12_65 : u_lay RX12 TX12 65 ∈ lw_ok := lw_i10 86 rfl rfl
theorem wY_X12_66 : u_lay RX12 TX12 66 ∈ lw_ok := lw_i10 88 rfl rfl
theorem wY_X12_67 : u_lay RX12 TX12 67 ∈ lw_ok := lw_i10 90 rfl rfl
theorem wY_X12_68 : u_lay RX12 TX12 68 ∈ lw_ok := lw_i10 92 rfl rfl
theorem wY_X12_69 : u_lay RX12 TX12 69 ∈ lw_ok := lw_i10 94 rfl rfl
theorem wY_X12_70 : u_lay RX12 TX12 70 ∈ lw_ok := lw_i10 96 rfl rfl
theorem wY_X12_71 : u_lay RX12 TX12 71 ∈ lw_ok := lw_i10 98 rfl rfl
theorem wY_X12_72 : u_lay RX12 TX12 72 ∈ lw_ok := lw_i10 100 rfl rfl
theorem wY_X12_73 : u_lay RX12 TX12 73 ∈ lw_ok := lw_i10 102 rfl rfl
theorem wY_X12_74 : u_lay RX12 TX12 74 ∈ lw_ok := lw_i10 104 rfl rfl
theorem wY_X12_75 : u_lay RX12 TX12 75 ∈ lw_ok := lw_i10 106 rfl rfl
theorem wY_X12_76 : u_lay RX12 TX12 76 ∈ lw_ok := lw_i10 108 rfl rfl
theorem wY_X12_77 : u_lay RX12 TX12 77 ∈ lw_ok := lw_i10 110 rfl rfl
theorem wY_X12_78 : u_lay RX12 TX12 78 ∈ lw_ok := lw_i10 112 rfl rfl
theorem wY_X12_79 : u_lay RX12 TX12 79 ∈ lw_ok := lw_i10 114 rfl rfl
theorem wY_X12_80 : u_lay RX12 TX12 80 ∈ lw_ok := lw_i10 116 rfl rfl
theorem wY_X12_81 : u_lay RX12 TX12 81 ∈ lw_ok := lw_i10 118 rfl rfl
theorem wY_X12_82 : u_lay RX12 TX12 82 ∈ lw_ok := lw_i10 120 rfl rfl
theorem wY_X12_83 : u_lay RX12 TX12 83 ∈ lw_ok := lw_i10 122 rfl rfl
theorem wY_X12_84 : u_lay RX12 TX12 84 ∈ lw_ok := lw_i10 124 rfl rfl
theorem wY_X12_85 : u_lay RX12 TX12 85 ∈ lw_ok := lw_i10 126 rfl rfl
theorem wY_X12_86 : u_lay RX12 TX12 86 ∈ lw_ok := lw_i10 128 rfl rfl
theorem wY_X12_87 : u_lay RX12 TX12 87 ∈ lw_ok := lw_i10 130 rfl rfl
theorem wY_X12_88 : u_lay RX12 TX12 88 ∈ lw_ok := lw_i10 132 rfl rfl
theorem wY_X12_89 : u_lay RX12 TX12 89 ∈ lw_ok := lw_i10 134 rfl rfl
theorem wY_X12_90 : u_lay RX12 TX12 90 ∈ lw_ok := lw_i10 136 rfl rfl
theorem wY_X12_91 : u_lay RX12 TX12 91 ∈ lw_ok := lw_i10 138 rfl rfl
theorem wY_X12_92 : u_lay RX12 TX12 92 ∈ lw_ok := lw_i10 140 rfl rfl
theorem wY_X12_93 : u_lay RX12 TX12 93 ∈ lw_ok := lw_i10 142 rfl rfl
theorem wY_X12_94 : u_lay RX12 TX12 94 ∈ lw_ok := lw_i10 144 rfl rfl
theorem wY_X12_95 : u_lay RX12 TX12 95 ∈ lw_ok := lw_i10 146 rfl rfl
theorem wY_X12_96 : u_lay RX12 TX12 96 ∈ lw_ok := lw_i10 148 rfl rfl
theorem wY_X12_97 : u_lay RX12 TX12 97 ∈ lw_ok := lw_i10 150 rfl rfl
theorem wY_X12_98 : u_lay RX12 TX12 98 ∈ lw_ok := lw_i10 152 rfl rfl
theorem wY_X12_99 : u_lay RX12 TX12 99 ∈ lw_ok := lw_i10 154 rfl rfl
theorem wY_X12_100 : u_lay RX12 TX12 100 ∈ lw_ok := lw_i10 156 rfl rfl
theorem wY_X12_101 : u_lay RX12 TX12 101 ∈ lw_ok := lw_i10 158 rfl rfl
theorem wY_X12_102 : u_lay RX12 TX12 102 ∈ lw_ok := lw_i10 160 rfl rfl
theorem wY_X12_103 : u_lay RX12 TX12 103 ∈ lw_ok := lw_i10 162 rfl rfl
theorem wY_X12_104 : u_lay RX12 TX12 104 ∈ lw_ok := lw_i10 164 rfl rfl
theorem wY_X12_105 : u_lay RX12 TX12 105 ∈ lw_ok := lw_i10 166 rfl rfl
theorem wY_X12_106 : u_lay RX12 TX12 106 ∈ lw_ok := lw_i10 168 rfl rfl
theorem wY_X12_107 : u_lay RX12 TX12 107 ∈ lw_ok := lw_i10 170 rfl rfl
theorem wY_X12_108 : u_lay RX12 TX12 108 ∈ lw_ok := lw_i10 172 rfl rfl
theorem wY_X12_109 : u_lay RX12 TX12 109 ∈ lw_ok := lw_i10 174 rfl rfl
theorem wY_X12_110 : u_lay RX12 TX12 110 ∈ lw_ok := lw_i10 176 rfl rfl
theorem wY_X12_111 : u_lay RX12 TX12 111 ∈ lw_ok := lw_i10 178 rfl rfl
theorem wY_X12_112 : u_lay RX12 TX12 112 ∈ lw_ok := lw_i10 180 rfl rfl
theorem wY_X12_113 : u_lay RX12 TX12 113 ∈ lw_ok := lw_i10 182 rfl rfl
theorem wY_X12_114 : u_lay RX12 TX12 114 ∈ lw_ok := lw_i10 184 rfl rfl
theorem wY_X12_115 : u_lay RX12 TX12 115 ∈ lw_ok := lw_i10 186 rfl rfl
theorem wY_X12_116 : u_lay RX12 TX12 116 ∈ lw_ok := lw_i10 188 rfl rfl
theorem wY_X12_117 : u_lay RX12 TX12 117 ∈ lw_ok := lw_i10 190 rfl rfl
theorem wY_X12_118 : u_lay RX12 TX12 118 ∈ lw_ok := lw_i10 192 rfl rfl
theorem wY_X12_119 : u_lay RX12 TX12 119 ∈ lw_ok := lw_i10 194 rfl rfl
theorem wY_X12_120 : u_lay RX12 TX12 120 ∈ lw_ok := lw_i10 196 rfl rfl
theorem wY_X12_121 : u_lay RX12 TX12 121 ∈ lw_ok := lw_i10 198 rfl rfl
theorem wY_X12_122 : u_lay RX12 TX12 122 ∈ lw_ok := lw_i10 200 rfl rfl
theorem wY_X12_123 : u_lay RX12 TX12 123 ∈ lw_ok := lw_i10 202 rfl rfl
theorem wY_X12_124 : u_lay RX12 TX12 124 ∈ lw_ok := lw_i10 204 rfl rfl
theorem wY_X12_125 : u_lay RX12 TX12 125 ∈ lw_ok := lw_i10 206 rfl rfl
theorem gIX12 : ∀ w ∈ u_ws RX12 TX12 126, w ∈ lw_ok := List.forall_mem_cons.mpr ⟨wY_X12_0, List.forall_mem_cons.mpr ⟨wY_X12_1, List.forall_mem_cons.mpr ⟨wY_X12_2, List.forall_mem_cons.mpr ⟨wY_X12_3, List.forall_mem_cons.mpr ⟨wY_X12_4, List.forall_mem_cons.mpr ⟨wY_X12_5, List.forall_mem_cons.mpr ⟨wY_X12_6, List.forall_mem_cons.mpr ⟨wY_X12_7, List.forall_mem_cons.mpr ⟨wY_X12_8, List.forall_mem_cons.mpr ⟨wY_X12_9, List.forall_mem_cons.mpr ⟨wY_X12_10, List.forall_mem_cons.mpr ⟨wY_X12_11, List.forall_mem_cons.mpr ⟨wY_X12_12, List.forall_mem_cons.mpr ⟨wY_X12_13, List.forall_mem_cons.mpr ⟨wY_X12_14, List.forall_mem_cons.mpr ⟨wY_X12_15, List.forall_mem_cons.mpr ⟨wY_X12_16, List.forall_mem_cons.mpr ⟨wY_X12_17, List.forall_mem_cons.mpr ⟨wY_X12_18, List.forall_mem_cons.mpr ⟨wY_X12_19, List.forall_mem_cons.mpr ⟨wY_X12_20, List.forall_mem_cons.mpr ⟨wY_X12_21, List.forall_mem_cons.mpr ⟨wY_X12_22, List.forall_mem_cons.mpr ⟨wY_X12_23, List.forall_mem_cons.mpr ⟨wY_X12_24, List.forall_mem_cons.mpr ⟨wY_X12_25, List.forall_mem_cons.mpr ⟨wY_X12_26, List.forall_mem_cons.mpr ⟨wY_X12_27, List.forall_mem_cons.mpr ⟨wY_X12_28, List.forall_mem_cons.mpr ⟨wY_X12_29, List.forall_mem_cons.mpr ⟨wY_X12_30, List.forall_mem_cons.mpr ⟨wY_X12_31, List.forall_mem_cons.mpr ⟨wY_X12_32, List.forall_mem_cons.mpr ⟨wY_X12_33, List.forall_mem_cons.mpr ⟨wY_X12_34, List.forall_mem_cons.mpr ⟨wY_X12_35, List.forall_mem_cons.mpr ⟨wY_X12_36, List.forall_mem_cons.mpr ⟨wY_X12_37, List.forall_mem_cons.mpr ⟨wY_X12_38, List.forall_mem_cons.mpr ⟨wY_X12_39, List.forall_mem_cons.mpr ⟨wY_X12_40, List.forall_mem_cons.mpr ⟨wY_X12_41, List.forall_mem_cons.mpr ⟨wY_X12_42, List.forall_mem_cons.mpr ⟨wY_X12_43, List.forall_mem_cons.mpr ⟨wY_X12_44, List.forall_mem_cons.mpr ⟨wY_X12_45, List.forall_mem_cons.mpr ⟨wY_X12_46, List.forall_mem_cons.mpr ⟨wY_X12_47, List.forall_mem_cons.mpr ⟨wY_X12_48, List.forall_mem_cons.mpr ⟨wY_X12_49, List.forall_mem_cons.mpr ⟨wY_X12_50, List.forall_mem_cons.mpr ⟨wY_X12_51, List.forall_mem_cons.mpr ⟨wY_X12_52, List.forall_mem_cons.mpr ⟨wY_X12_53, List.forall_mem_cons.mpr ⟨wY_X12_54, List.forall_mem_cons.mpr ⟨wY_X12_55, List.forall_mem_cons.mpr ⟨wY_X12_56, List.forall_mem_cons.mpr ⟨wY_X12_57, List.forall_mem_cons.mpr ⟨wY_X12_58, List.forall_mem_cons.mpr ⟨wY_X12_59, List.forall_mem_cons.mpr ⟨wY_X12_60, List.forall_mem_cons.mpr ⟨wY_X12_61, List.forall_mem_cons.mpr ⟨wY_X12_62, List.forall_mem_cons.mpr ⟨wY_X12_63, List.forall_mem_cons.mpr ⟨wY_X12_64, List.forall_mem_cons.mpr ⟨wY_X12_65, List.forall_mem_cons.mpr ⟨wY_X12_66, List.forall_mem_cons.mpr ⟨wY_X12_67, List.forall_mem_cons.mpr ⟨wY_X12_68, List.forall_mem_cons.mpr ⟨wY_X12_69, List.forall_mem_cons.mpr ⟨wY_X12_70, List.forall_mem_cons.mpr ⟨wY_X12_71, List.forall_mem_cons.mpr ⟨wY_X12_72, List.forall_mem_cons.mpr ⟨wY_X12_73, List.forall_mem_cons.mpr ⟨wY_X12_74, List.forall_mem_cons.mpr ⟨wY_X12_75, List.forall_mem_cons.mpr ⟨wY_X12_76, List.forall_mem_cons.mpr ⟨wY_X12_77, List.forall_mem_cons.mpr ⟨wY_X12_78, List.forall_mem_cons.mpr ⟨wY_X12_79, List.forall_mem_cons.mpr ⟨wY_X12_80, List.forall_mem_cons.mpr ⟨wY_X12_81, List.forall_mem_cons.mpr ⟨wY_X12_82, List.forall_mem_cons.mpr ⟨wY_X12_83, List.forall_mem_cons.mpr ⟨wY_X12_84, List.forall_mem_cons.mpr ⟨wY_X12_85, List.forall_mem_cons.mpr ⟨wY_X12_86, List.forall_mem_cons.mpr ⟨wY_X12_87, List.forall_mem_cons.mpr ⟨wY_X12_88, List.forall_mem_cons.mpr ⟨wY_X12_89, List.forall_mem_cons.mpr ⟨wY_X12_90, List.forall_mem_cons.mpr ⟨wY_X12_91, List.forall_mem_cons.mpr ⟨wY_X12_92, List.forall_mem_cons.mpr ⟨wY_X12_93, List.forall_mem_cons.mpr ⟨wY_X12_94, List.forall_mem_cons.mpr ⟨wY_X12_95, List.forall_mem_cons.mpr ⟨wY_X12_96, List.forall_mem_cons.mpr ⟨wY_X12_97, List.forall_mem_cons.mpr ⟨wY_X12_98, List.forall_mem_cons.mpr ⟨wY_X12_99, List.forall_mem_cons.mpr ⟨wY_X12_100, List.forall_mem_cons.mpr ⟨wY_X12_101, List.forall_mem_cons.mpr ⟨wY_X12_102, List.forall_mem_cons.mpr ⟨wY_X12_103, List.forall_mem_cons.mpr ⟨wY_X12_104, List.forall_mem_cons.mpr ⟨wY_X12_105, List.forall_mem_cons.mpr ⟨wY_X12_106, List.forall_mem_cons.mpr ⟨wY_X12_107, List.forall_mem_cons.mpr ⟨wY_X12_108, List.forall_mem_cons.mpr ⟨wY_X12_109, List.forall_mem_cons.mpr ⟨wY_X12_110, List.forall_mem_cons.mpr ⟨wY_X12_111, List.forall_mem_cons.mpr ⟨wY_X12_112, List.forall_mem_cons.mpr ⟨wY_X12_113, List.forall_mem_cons.mpr ⟨wY_X12_114, List.forall_mem_cons.mpr ⟨wY_X12_115, List.forall_mem_cons.mpr ⟨wY_X12_116, List.forall_mem_cons.mpr ⟨wY_X12_117, List.forall_mem_cons.mpr ⟨wY_X12_118, List.forall_mem_cons.mpr ⟨wY_X12_119, List.forall_mem_cons.mpr ⟨wY_X12_120, List.forall_mem_cons.mpr ⟨wY_X12_121, List.forall_mem_cons.mpr ⟨wY_X12_122, List.forall_mem_cons.mpr ⟨wY_X12_123, List.forall_mem_cons.mpr ⟨wY_X12_124, List.forall_mem_cons.mpr ⟨wY_X12_125, fun _ h => absurd h List.not_mem_nil⟩⟩⟩⟩⟩⟩⟩⟩⟩⟩⟩⟩⟩⟩⟩⟩⟩⟩⟩⟩⟩⟩⟩⟩⟩⟩⟩⟩⟩⟩⟩⟩⟩⟩⟩⟩⟩⟩⟩⟩⟩⟩⟩⟩⟩⟩⟩⟩⟩⟩⟩⟩⟩⟩⟩⟩⟩⟩⟩⟩⟩⟩⟩⟩⟩⟩⟩⟩⟩⟩⟩⟩⟩⟩⟩⟩⟩⟩⟩⟩⟩⟩⟩⟩⟩⟩⟩⟩⟩⟩⟩⟩⟩⟩⟩⟩⟩⟩⟩⟩⟩⟩⟩⟩⟩⟩⟩⟩⟩⟩⟩⟩⟩⟩⟩⟩⟩⟩⟩⟩⟩⟩⟩⟩⟩⟩
theorem gCX12 (l : Launch) (D : va_G) (c : Nat → ClassId) (H0 : Heap) (sa : Nat × Nat × (Nat → Int32)) : sCl (gG l D c H0 sa) 12 (RX12, TX12, 126) tyX12 := ⟨rfl, gIX12, tyX12_ok, nmX12⟩
end
