-- ===== PART A: goes FIRST, ahead of the names: the tables' words, and 'selects' of the private methods out of them =====
/-- a private method of a class that the tables say can be made, by its rows of tables_1 -/
def lw_okq (q : MethodName × Nat) : Prop := (q.1.cls ≠ "java/lang/invoke/MethodHandle" ∧ q.1.cls ≠ "java/lang/invoke/VarHandle") ∧ Cond.instantiable q.1.cls q.2 ∈ tables_1 ∧ Cond.privateMethod q.1 ∈ tables_1 ∧ Cond.instanceMethod q.1 ∈ tables_1
theorem lw_p0 : lw_okq (⟨"MeshParents", "offerError", "(II)I"⟩, 8) := ⟨⟨by decide +kernel, by decide +kernel⟩, List.mem_of_getElem? (i := 12) (by decide +kernel), List.mem_of_getElem? (i := 421) (by decide +kernel), List.mem_of_getElem? (i := 422) (by decide +kernel)⟩
theorem lw_p1 : lw_okq (⟨"MeshParents", "happens", "(I)Z"⟩, 8) := ⟨⟨by decide +kernel, by decide +kernel⟩, List.mem_of_getElem? (i := 12) (by decide +kernel), List.mem_of_getElem? (i := 571) (by decide +kernel), List.mem_of_getElem? (i := 572) (by decide +kernel)⟩
theorem lw_p2 : lw_okq (⟨"MeshParents", "flipInTrial", "(I)Z"⟩, 8) := ⟨⟨by decide +kernel, by decide +kernel⟩, List.mem_of_getElem? (i := 12) (by decide +kernel), List.mem_of_getElem? (i := 575) (by decide +kernel), List.mem_of_getElem? (i := 576) (by decide +kernel)⟩
theorem lw_p3 : lw_okq (⟨"MeshParents", "setOffsetInTrial", "(II)Z"⟩, 8) := ⟨⟨by decide +kernel, by decide +kernel⟩, List.mem_of_getElem? (i := 12) (by decide +kernel), List.mem_of_getElem? (i := 579) (by decide +kernel), List.mem_of_getElem? (i := 580) (by decide +kernel)⟩
theorem lw_p4 : lw_okq (⟨"MeshParents", "explainsAll", "(I)Z"⟩, 8) := ⟨⟨by decide +kernel, by decide +kernel⟩, List.mem_of_getElem? (i := 12) (by decide +kernel), List.mem_of_getElem? (i := 601) (by decide +kernel), List.mem_of_getElem? (i := 602) (by decide +kernel)⟩
theorem lw_p5 : lw_okq (⟨"MeshParents", "worth", "(I)I"⟩, 8) := ⟨⟨by decide +kernel, by decide +kernel⟩, List.mem_of_getElem? (i := 12) (by decide +kernel), List.mem_of_getElem? (i := 615) (by decide +kernel), List.mem_of_getElem? (i := 616) (by decide +kernel)⟩
theorem lw_p6 : lw_okq (⟨"MeshParents", "reachesAllWithout", "(I)Z"⟩, 8) := ⟨⟨by decide +kernel, by decide +kernel⟩, List.mem_of_getElem? (i := 12) (by decide +kernel), List.mem_of_getElem? (i := 636) (by decide +kernel), List.mem_of_getElem? (i := 637) (by decide +kernel)⟩
theorem lw_p7 : lw_okq (⟨"MeshParentsModel", "fresh", "()V"⟩, 40) := ⟨⟨by decide +kernel, by decide +kernel⟩, List.mem_of_getElem? (i := 658) (by decide +kernel), List.mem_of_getElem? (i := 664) (by decide +kernel), List.mem_of_getElem? (i := 665) (by decide +kernel)⟩
theorem lw_p8 : lw_okq (⟨"MeshParentsModel", "readText", "()I"⟩, 40) := ⟨⟨by decide +kernel, by decide +kernel⟩, List.mem_of_getElem? (i := 658) (by decide +kernel), List.mem_of_getElem? (i := 805) (by decide +kernel), List.mem_of_getElem? (i := 806) (by decide +kernel)⟩
theorem lw_p9 : lw_okq (⟨"MeshParentsModel", "take", "(I)Z"⟩, 40) := ⟨⟨by decide +kernel, by decide +kernel⟩, List.mem_of_getElem? (i := 658) (by decide +kernel), List.mem_of_getElem? (i := 809) (by decide +kernel), List.mem_of_getElem? (i := 810) (by decide +kernel)⟩
theorem lw_p10 : lw_okq (⟨"MeshParentsModel", "takeSign", "(I)Z"⟩, 40) := ⟨⟨by decide +kernel, by decide +kernel⟩, List.mem_of_getElem? (i := 658) (by decide +kernel), List.mem_of_getElem? (i := 813) (by decide +kernel), List.mem_of_getElem? (i := 814) (by decide +kernel)⟩
theorem lw_p11 : lw_okq (⟨"MeshParentsModel", "mayLink", "()Z"⟩, 40) := ⟨⟨by decide +kernel, by decide +kernel⟩, List.mem_of_getElem? (i := 658) (by decide +kernel), List.mem_of_getElem? (i := 817) (by decide +kernel), List.mem_of_getElem? (i := 818) (by decide +kernel)⟩
theorem lw_p12 : lw_okq (⟨"MeshParentsModel", "isFullAsRead", "(I)Z"⟩, 40) := ⟨⟨by decide +kernel, by decide +kernel⟩, List.mem_of_getElem? (i := 658) (by decide +kernel), List.mem_of_getElem? (i := 821) (by decide +kernel), List.mem_of_getElem? (i := 822) (by decide +kernel)⟩
theorem lw_p13 : lw_okq (⟨"MeshParentsModel", "areLinkedAsRead", "(II)Z"⟩, 40) := ⟨⟨by decide +kernel, by decide +kernel⟩, List.mem_of_getElem? (i := 658) (by decide +kernel), List.mem_of_getElem? (i := 825) (by decide +kernel), List.mem_of_getElem? (i := 826) (by decide +kernel)⟩
theorem lw_p14 : lw_okq (⟨"MeshParentsModel", "takeOfGateway", "(I)Z"⟩, 40) := ⟨⟨by decide +kernel, by decide +kernel⟩, List.mem_of_getElem? (i := 658) (by decide +kernel), List.mem_of_getElem? (i := 830) (by decide +kernel), List.mem_of_getElem? (i := 831) (by decide +kernel)⟩
theorem lw_p15 : lw_okq (⟨"MeshParentsModel", "takeOfLeaf", "(I)Z"⟩, 40) := ⟨⟨by decide +kernel, by decide +kernel⟩, List.mem_of_getElem? (i := 658) (by decide +kernel), List.mem_of_getElem? (i := 834) (by decide +kernel), List.mem_of_getElem? (i := 835) (by decide +kernel)⟩
def lw_privs_1 : List (MethodName × Nat) := [(⟨"MeshParents", "offerError", "(II)I"⟩, 8), (⟨"MeshParents", "happens", "(I)Z"⟩, 8), (⟨"MeshParents", "flipInTrial", "(I)Z"⟩, 8), (⟨"MeshParents", "setOffsetInTrial", "(II)Z"⟩, 8), (⟨"MeshParents", "explainsAll", "(I)Z"⟩, 8), (⟨"MeshParents", "worth", "(I)I"⟩, 8), (⟨"MeshParents", "reachesAllWithout", "(I)Z"⟩, 8), (⟨"MeshParentsModel", "fresh", "()V"⟩, 40), (⟨"MeshParentsModel", "readText", "()I"⟩, 40), (⟨"MeshParentsModel", "take", "(I)Z"⟩, 40), (⟨"MeshParentsModel", "takeSign", "(I)Z"⟩, 40), (⟨"MeshParentsModel", "mayLink", "()Z"⟩, 40), (⟨"MeshParentsModel", "isFullAsRead", "(I)Z"⟩, 40), (⟨"MeshParentsModel", "areLinkedAsRead", "(II)Z"⟩, 40), (⟨"MeshParentsModel", "takeOfGateway", "(I)Z"⟩, 40), (⟨"MeshParentsModel", "takeOfLeaf", "(I)Z"⟩, 40)]
theorem lw_r1 : ∀ q ∈ lw_privs_1, lw_okq q := List.forall_mem_cons.mpr ⟨lw_p0, List.forall_mem_cons.mpr ⟨lw_p1, List.forall_mem_cons.mpr ⟨lw_p2, List.forall_mem_cons.mpr ⟨lw_p3, List.forall_mem_cons.mpr ⟨lw_p4, List.forall_mem_cons.mpr ⟨lw_p5, List.forall_mem_cons.mpr ⟨lw_p6, List.forall_mem_cons.mpr ⟨lw_p7, List.forall_mem_cons.mpr ⟨lw_p8, List.forall_mem_cons.mpr ⟨lw_p9, List.forall_mem_cons.mpr ⟨lw_p10, List.forall_mem_cons.mpr ⟨lw_p11, List.forall_mem_cons.mpr ⟨lw_p12, List.forall_mem_cons.mpr ⟨lw_p13, List.forall_mem_cons.mpr ⟨lw_p14, List.forall_mem_cons.mpr ⟨lw_p15, fun _ h => absurd h List.not_mem_nil⟩⟩⟩⟩⟩⟩⟩⟩⟩⟩⟩⟩⟩⟩⟩⟩
theorem lw_p16 : lw_okq (⟨"MeshParentsModel", "takeOfLink", "(I)Z"⟩, 40) := ⟨⟨by decide +kernel, by decide +kernel⟩, List.mem_of_getElem? (i := 658) (by decide +kernel), List.mem_of_getElem? (i := 838) (by decide +kernel), List.mem_of_getElem? (i := 839) (by decide +kernel)⟩
theorem lw_p17 : lw_okq (⟨"MeshParentsModel", "those", "(I)I"⟩, 40) := ⟨⟨by decide +kernel, by decide +kernel⟩, List.mem_of_getElem? (i := 658) (by decide +kernel), List.mem_of_getElem? (i := 850) (by decide +kernel), List.mem_of_getElem? (i := 851) (by decide +kernel)⟩
theorem lw_p18 : lw_okq (⟨"MeshParentsModel", "reached", "([I)I"⟩, 40) := ⟨⟨by decide +kernel, by decide +kernel⟩, List.mem_of_getElem? (i := 658) (by decide +kernel), List.mem_of_getElem? (i := 854) (by decide +kernel), List.mem_of_getElem? (i := 855) (by decide +kernel)⟩
theorem lw_p19 : lw_okq (⟨"MeshParentsModel", "endOf", "([II)I"⟩, 40) := ⟨⟨by decide +kernel, by decide +kernel⟩, List.mem_of_getElem? (i := 658) (by decide +kernel), List.mem_of_getElem? (i := 858) (by decide +kernel), List.mem_of_getElem? (i := 859) (by decide +kernel)⟩
theorem lw_p20 : lw_okq (⟨"MeshParentsModel", "downs", "()I"⟩, 40) := ⟨⟨by decide +kernel, by decide +kernel⟩, List.mem_of_getElem? (i := 658) (by decide +kernel), List.mem_of_getElem? (i := 865) (by decide +kernel), List.mem_of_getElem? (i := 866) (by decide +kernel)⟩
theorem lw_p21 : lw_okq (⟨"MeshParentsModel", "isNode", "(I)Z"⟩, 40) := ⟨⟨by decide +kernel, by decide +kernel⟩, List.mem_of_getElem? (i := 658) (by decide +kernel), List.mem_of_getElem? (i := 873) (by decide +kernel), List.mem_of_getElem? (i := 874) (by decide +kernel)⟩
theorem lw_p22 : lw_okq (⟨"MeshParentsModel", "tell", "([III)I"⟩, 40) := ⟨⟨by decide +kernel, by decide +kernel⟩, List.mem_of_getElem? (i := 658) (by decide +kernel), List.mem_of_getElem? (i := 877) (by decide +kernel), List.mem_of_getElem? (i := 878) (by decide +kernel)⟩
theorem lw_p23 : lw_okq (⟨"MeshParentsModel", "loadOf", "([II)I"⟩, 40) := ⟨⟨by decide +kernel, by decide +kernel⟩, List.mem_of_getElem? (i := 658) (by decide +kernel), List.mem_of_getElem? (i := 881) (by decide +kernel), List.mem_of_getElem? (i := 882) (by decide +kernel)⟩
theorem lw_p24 : lw_okq (⟨"MeshParentsModel", "isLink", "(I)Z"⟩, 40) := ⟨⟨by decide +kernel, by decide +kernel⟩, List.mem_of_getElem? (i := 658) (by decide +kernel), List.mem_of_getElem? (i := 889) (by decide +kernel), List.mem_of_getElem? (i := 890) (by decide +kernel)⟩
theorem lw_p25 : lw_okq (⟨"MeshParentsModel", "airtime", "([II)I"⟩, 40) := ⟨⟨by decide +kernel, by decide +kernel⟩, List.mem_of_getElem? (i := 658) (by decide +kernel), List.mem_of_getElem? (i := 893) (by decide +kernel), List.mem_of_getElem? (i := 894) (by decide +kernel)⟩
theorem lw_p26 : lw_okq (⟨"MeshParentsModel", "noTwo", "(II)I"⟩, 40) := ⟨⟨by decide +kernel, by decide +kernel⟩, List.mem_of_getElem? (i := 658) (by decide +kernel), List.mem_of_getElem? (i := 901) (by decide +kernel), List.mem_of_getElem? (i := 902) (by decide +kernel)⟩
theorem lw_p27 : lw_okq (⟨"MeshParentsModel", "priceOf", "([III)I"⟩, 40) := ⟨⟨by decide +kernel, by decide +kernel⟩, List.mem_of_getElem? (i := 658) (by decide +kernel), List.mem_of_getElem? (i := 905) (by decide +kernel), List.mem_of_getElem? (i := 906) (by decide +kernel)⟩
theorem lw_p28 : lw_okq (⟨"MeshParentsModel", "linkOf", "([III)I"⟩, 40) := ⟨⟨by decide +kernel, by decide +kernel⟩, List.mem_of_getElem? (i := 658) (by decide +kernel), List.mem_of_getElem? (i := 909) (by decide +kernel), List.mem_of_getElem? (i := 910) (by decide +kernel)⟩
theorem lw_p29 : lw_okq (⟨"MeshParentsModel", "offers", "([II)Z"⟩, 40) := ⟨⟨by decide +kernel, by decide +kernel⟩, List.mem_of_getElem? (i := 658) (by decide +kernel), List.mem_of_getElem? (i := 913) (by decide +kernel), List.mem_of_getElem? (i := 914) (by decide +kernel)⟩
theorem lw_p30 : lw_okq (⟨"MeshParentsModel", "offered", "([II)I"⟩, 40) := ⟨⟨by decide +kernel, by decide +kernel⟩, List.mem_of_getElem? (i := 658) (by decide +kernel), List.mem_of_getElem? (i := 917) (by decide +kernel), List.mem_of_getElem? (i := 918) (by decide +kernel)⟩
theorem lw_p31 : lw_okq (⟨"MeshParentsModel", "isSafe", "([III)Z"⟩, 40) := ⟨⟨by decide +kernel, by decide +kernel⟩, List.mem_of_getElem? (i := 658) (by decide +kernel), List.mem_of_getElem? (i := 925) (by decide +kernel), List.mem_of_getElem? (i := 926) (by decide +kernel)⟩
def lw_privs_2 : List (MethodName × Nat) := [(⟨"MeshParentsModel", "takeOfLink", "(I)Z"⟩, 40), (⟨"MeshParentsModel", "those", "(I)I"⟩, 40), (⟨"MeshParentsModel", "reached", "([I)I"⟩, 40), (⟨"MeshParentsModel", "endOf", "([II)I"⟩, 40), (⟨"MeshParentsModel", "downs", "()I"⟩, 40), (⟨"MeshParentsModel", "isNode", "(I)Z"⟩, 40), (⟨"MeshParentsModel", "tell", "([III)I"⟩, 40), (⟨"MeshParentsModel", "loadOf", "([II)I"⟩, 40), (⟨"MeshParentsModel", "isLink", "(I)Z"⟩, 40), (⟨"MeshParentsModel", "airtime", "([II)I"⟩, 40), (⟨"MeshParentsModel", "noTwo", "(II)I"⟩, 40), (⟨"MeshParentsModel", "priceOf", "([III)I"⟩, 40), (⟨"MeshParentsModel", "linkOf", "([III)I"⟩, 40), (⟨"MeshParentsModel", "offers", "([II)Z"⟩, 40), (⟨"MeshParentsModel", "offered", "([II)I"⟩, 40), (⟨"MeshParentsModel", "isSafe", "([III)Z"⟩, 40)]
theorem lw_r2 : ∀ q ∈ lw_privs_2, lw_okq q := List.forall_mem_cons.mpr ⟨lw_p16, List.forall_mem_cons.mpr ⟨lw_p17, List.forall_mem_cons.mpr ⟨lw_p18, List.forall_mem_cons.mpr ⟨lw_p19, List.forall_mem_cons.mpr ⟨lw_p20, List.forall_mem_cons.mpr ⟨lw_p21, List.forall_mem_cons.mpr ⟨lw_p22, List.forall_mem_cons.mpr ⟨lw_p23, List.forall_mem_cons.mpr ⟨lw_p24, List.forall_mem_cons.mpr ⟨lw_p25, List.forall_mem_cons.mpr ⟨lw_p26, List.forall_mem_cons.mpr ⟨lw_p27, List.forall_mem_cons.mpr ⟨lw_p28, List.forall_mem_cons.mpr ⟨lw_p29, List.forall_mem_cons.mpr ⟨lw_p30, List.forall_mem_cons.mpr ⟨lw_p31, fun _ h => absurd h List.not_mem_nil⟩⟩⟩⟩⟩⟩⟩⟩⟩⟩⟩⟩⟩⟩⟩⟩
theorem lw_p32 : lw_okq (⟨"MeshParentsModel", "sequenceOf", "([II)I"⟩, 40) := ⟨⟨by decide +kernel, by decide +kernel⟩, List.mem_of_getElem? (i := 658) (by decide +kernel), List.mem_of_getElem? (i := 929) (by decide +kernel), List.mem_of_getElem? (i := 930) (by decide +kernel)⟩
theorem lw_p33 : lw_okq (⟨"MeshParentsModel", "note", "()V"⟩, 40) := ⟨⟨by decide +kernel, by decide +kernel⟩, List.mem_of_getElem? (i := 658) (by decide +kernel), List.mem_of_getElem? (i := 938) (by decide +kernel), List.mem_of_getElem? (i := 939) (by decide +kernel)⟩
theorem lw_p34 : lw_okq (⟨"MeshParentsModel", "goOn", "([I)V"⟩, 40) := ⟨⟨by decide +kernel, by decide +kernel⟩, List.mem_of_getElem? (i := 658) (by decide +kernel), List.mem_of_getElem? (i := 942) (by decide +kernel), List.mem_of_getElem? (i := 943) (by decide +kernel)⟩
theorem lw_p35 : lw_okq (⟨"MeshParentsModel", "isAwake", "(II)Z"⟩, 40) := ⟨⟨by decide +kernel, by decide +kernel⟩, List.mem_of_getElem? (i := 658) (by decide +kernel), List.mem_of_getElem? (i := 949) (by decide +kernel), List.mem_of_getElem? (i := 950) (by decide +kernel)⟩
theorem lw_p36 : lw_okq (⟨"MeshParentsModel", "hears", "([II)Z"⟩, 40) := ⟨⟨by decide +kernel, by decide +kernel⟩, List.mem_of_getElem? (i := 658) (by decide +kernel), List.mem_of_getElem? (i := 953) (by decide +kernel), List.mem_of_getElem? (i := 954) (by decide +kernel)⟩
theorem lw_p37 : lw_okq (⟨"MeshParentsModel", "isGood", "([III)Z"⟩, 40) := ⟨⟨by decide +kernel, by decide +kernel⟩, List.mem_of_getElem? (i := 658) (by decide +kernel), List.mem_of_getElem? (i := 957) (by decide +kernel), List.mem_of_getElem? (i := 958) (by decide +kernel)⟩
theorem lw_p38 : lw_okq (⟨"MeshParentsModel", "isGateway", "(I)Z"⟩, 40) := ⟨⟨by decide +kernel, by decide +kernel⟩, List.mem_of_getElem? (i := 658) (by decide +kernel), List.mem_of_getElem? (i := 976) (by decide +kernel), List.mem_of_getElem? (i := 977) (by decide +kernel)⟩
theorem lw_p39 : lw_okq (⟨"MeshParentsModel", "tryRounds", "(I)V"⟩, 40) := ⟨⟨by decide +kernel, by decide +kernel⟩, List.mem_of_getElem? (i := 658) (by decide +kernel), List.mem_of_getElem? (i := 993) (by decide +kernel), List.mem_of_getElem? (i := 994) (by decide +kernel)⟩
theorem lw_p40 : lw_okq (⟨"MeshParentsModel", "spread", "()I"⟩, 40) := ⟨⟨by decide +kernel, by decide +kernel⟩, List.mem_of_getElem? (i := 658) (by decide +kernel), List.mem_of_getElem? (i := 1009) (by decide +kernel), List.mem_of_getElem? (i := 1010) (by decide +kernel)⟩
theorem lw_p41 : lw_okq (⟨"MeshParentsModel", "judged", "(IIIII)Z"⟩, 40) := ⟨⟨by decide +kernel, by decide +kernel⟩, List.mem_of_getElem? (i := 658) (by decide +kernel), List.mem_of_getElem? (i := 1021) (by decide +kernel), List.mem_of_getElem? (i := 1022) (by decide +kernel)⟩
theorem lw_p42 : lw_okq (⟨"MeshParentsModel", "isSoBy", "(II)Z"⟩, 40) := ⟨⟨by decide +kernel, by decide +kernel⟩, List.mem_of_getElem? (i := 658) (by decide +kernel), List.mem_of_getElem? (i := 1038) (by decide +kernel), List.mem_of_getElem? (i := 1039) (by decide +kernel)⟩
theorem lw_p43 : lw_okq (⟨"MeshParentsModel", "reachedBy", "(I)I"⟩, 40) := ⟨⟨by decide +kernel, by decide +kernel⟩, List.mem_of_getElem? (i := 658) (by decide +kernel), List.mem_of_getElem? (i := 1046) (by decide +kernel), List.mem_of_getElem? (i := 1047) (by decide +kernel)⟩
def lw_privs_3 : List (MethodName × Nat) := [(⟨"MeshParentsModel", "sequenceOf", "([II)I"⟩, 40), (⟨"MeshParentsModel", "note", "()V"⟩, 40), (⟨"MeshParentsModel", "goOn", "([I)V"⟩, 40), (⟨"MeshParentsModel", "isAwake", "(II)Z"⟩, 40), (⟨"MeshParentsModel", "hears", "([II)Z"⟩, 40), (⟨"MeshParentsModel", "isGood", "([III)Z"⟩, 40), (⟨"MeshParentsModel", "isGateway", "(I)Z"⟩, 40), (⟨"MeshParentsModel", "tryRounds", "(I)V"⟩, 40), (⟨"MeshParentsModel", "spread", "()I"⟩, 40), (⟨"MeshParentsModel", "judged", "(IIIII)Z"⟩, 40), (⟨"MeshParentsModel", "isSoBy", "(II)Z"⟩, 40), (⟨"MeshParentsModel", "reachedBy", "(I)I"⟩, 40)]
theorem lw_r3 : ∀ q ∈ lw_privs_3, lw_okq q := List.forall_mem_cons.mpr ⟨lw_p32, List.forall_mem_cons.mpr ⟨lw_p33, List.forall_mem_cons.mpr ⟨lw_p34, List.forall_mem_cons.mpr ⟨lw_p35, List.forall_mem_cons.mpr ⟨lw_p36, List.forall_mem_cons.mpr ⟨lw_p37, List.forall_mem_cons.mpr ⟨lw_p38, List.forall_mem_cons.mpr ⟨lw_p39, List.forall_mem_cons.mpr ⟨lw_p40, List.forall_mem_cons.mpr ⟨lw_p41, List.forall_mem_cons.mpr ⟨lw_p42, List.forall_mem_cons.mpr ⟨lw_p43, fun _ h => absurd h List.not_mem_nil⟩⟩⟩⟩⟩⟩⟩⟩⟩⟩⟩⟩
def lw_privs : List (MethodName × Nat) := lw_privs_1 ++ (lw_privs_2 ++ (lw_privs_3))
def lw_tbl : List Cond := k2_sels lw_privs ++ tables_1
theorem lw_privs_ok : ∀ q ∈ lw_privs, lw_okq q := by
  show ∀ q ∈ lw_privs_1 ++ (lw_privs_2 ++ (lw_privs_3)), lw_okq q
  exact List.forall_mem_append.mpr ⟨lw_r1, List.forall_mem_append.mpr ⟨lw_r2, lw_r3⟩⟩
/-! tables of the classes and methods (written by wip/whole/gen01.py) -/
def z_T0 : u_T := fun k => match k with
  | 0 => ("MeshParents$History", "rows", "[LMeshParents$Mesh;", true)
  | 1 => ("MeshParents$History", "oldest", "I", false)
  | _ => ("MeshParents$History", "count", "I", false)
def z_y0 : Nat → FieldType := fun k => match k with
  | 0 => .array (.object "MeshParents$Mesh")
  | 1 => .int
  | _ => .int
def z_T1 : u_T := fun k => match k with
  | 0 => ("MeshParents$Link", "first", "I", false)
  | 1 => ("MeshParents$Link", "second", "I", false)
  | 2 => ("MeshParents$Link", "loss", "I", false)
  | 3 => ("MeshParents$Link", "lossBack", "I", false)
  | 4 => ("MeshParents$Link", "slots", "I", false)
  | 5 => ("MeshParents$Link", "airtime", "I", false)
  | _ => ("MeshParents$Link", "isDown", "Z", false)
def z_y1 : Nat → FieldType := fun k => match k with
  | 0 => .int
  | 1 => .int
  | 2 => .int
  | 3 => .int
  | 4 => .int
  | 5 => .int
  | _ => .boolean
def z_T2 : u_T := fun k => match k with
  | 0 => ("MeshParents$Mesh", "nodes", "[LMeshParents$Node;", true)
  | 1 => ("MeshParents$Mesh", "links", "[LMeshParents$Link;", true)
  | 2 => ("MeshParents$Mesh", "nodeCount", "I", false)
  | 3 => ("MeshParents$Mesh", "linkCount", "I", false)
  | 4 => ("MeshParents$Mesh", "margin", "I", false)
  | 5 => ("MeshParents$Mesh", "sequence", "I", false)
  | _ => ("MeshParents$Mesh", "rounds", "I", false)
def z_y2 : Nat → FieldType := fun k => match k with
  | 0 => .array (.object "MeshParents$Node")
  | 1 => .array (.object "MeshParents$Link")
  | 2 => .int
  | 3 => .int
  | 4 => .int
  | 5 => .int
  | _ => .int
def z_T3 : u_T := fun k => match k with
  | 0 => ("MeshParents$Node", "kind", "I", false)
  | 1 => ("MeshParents$Node", "offset", "I", false)
  | 2 => ("MeshParents$Node", "cycle", "I", false)
  | 3 => ("MeshParents$Node", "phase", "I", false)
  | 4 => ("MeshParents$Node", "parent", "I", false)
  | 5 => ("MeshParents$Node", "cost", "I", false)
  | 6 => ("MeshParents$Node", "sequence", "I", false)
  | 7 => ("MeshParents$Node", "boundSequence", "I", false)
  | 8 => ("MeshParents$Node", "boundCost", "I", false)
  | 9 => ("MeshParents$Node", "offers", "Z", false)
  | 10 => ("MeshParents$Node", "offerSequence", "I", false)
  | 11 => ("MeshParents$Node", "offerCost", "I", false)
  | 12 => ("MeshParents$Node", "heardOffer", "Z", false)
  | 13 => ("MeshParents$Node", "goodParent", "LMeshParents$Node;", false)
  | 14 => ("MeshParents$Node", "parentPrice", "I", false)
  | 15 => ("MeshParents$Node", "best", "LMeshParents$Node;", false)
  | 16 => ("MeshParents$Node", "bestNumber", "I", false)
  | _ => ("MeshParents$Node", "bestPrice", "I", false)
def z_y3 : Nat → FieldType := fun k => match k with
  | 0 => .int
  | 1 => .int
  | 2 => .int
  | 3 => .int
  | 4 => .int
  | 5 => .int
  | 6 => .int
  | 7 => .int
  | 8 => .int
  | 9 => .boolean
  | 10 => .int
  | 11 => .int
  | 12 => .boolean
  | 13 => .object "MeshParents$Node"
  | 14 => .int
  | 15 => .object "MeshParents$Node"
  | 16 => .int
  | _ => .int
def z_T4 : u_T := fun k => match k with
  | 0 => ("MeshParents$Observations", "node", "[I", true)
  | 1 => ("MeshParents$Observations", "after", "[I", true)
  | 2 => ("MeshParents$Observations", "isReached", "[Z", true)
  | _ => ("MeshParents$Observations", "count", "I", false)
def z_y4 : Nat → FieldType := fun k => match k with
  | 0 => .array .int
  | 1 => .array .int
  | 2 => .array .boolean
  | _ => .int
def z_T5 : u_T := fun k => match k with
  | 0 => ("MeshParents$Text", "letters", "[I", true)
  | 1 => ("MeshParents$Text", "length", "I", false)
  | _ => ("MeshParents$Text", "place", "I", false)
def z_y5 : Nat → FieldType := fun k => match k with
  | 0 => .array .int
  | 1 => .int
  | _ => .int
def z_T6 : u_T := fun k => match k with
  | 0 => ("MeshParents", "text", "LMeshParents$Text;", true)
  | 1 => ("MeshParents", "now", "LMeshParents$Mesh;", true)
  | 2 => ("MeshParents", "trial", "LMeshParents$Mesh;", true)
  | 3 => ("MeshParents", "history", "LMeshParents$History;", true)
  | 4 => ("MeshParents", "saved", "[LMeshParents$Mesh;", true)
  | 5 => ("MeshParents", "isSaved", "[Z", true)
  | 6 => ("MeshParents", "observations", "LMeshParents$Observations;", true)
  | _ => ("MeshParents", "random", "J", false)
def z_y6 : Nat → FieldType := fun k => match k with
  | 0 => .object "MeshParents$Text"
  | 1 => .object "MeshParents$Mesh"
  | 2 => .object "MeshParents$Mesh"
  | 3 => .object "MeshParents$History"
  | 4 => .array (.object "MeshParents$Mesh")
  | 5 => .array .boolean
  | 6 => .object "MeshParents$Observations"
  | _ => .long
def z_T7 : u_T := fun k => match k with
  | 0 => ("MeshParentsModel", "text", "[I", true)
  | 1 => ("MeshParentsModel", "length", "I", false)
  | 2 => ("MeshParentsModel", "nodes", "I", false)
  | 3 => ("MeshParentsModel", "sort", "[I", true)
  | 4 => ("MeshParentsModel", "cycle", "[I", true)
  | 5 => ("MeshParentsModel", "phase", "[I", true)
  | 6 => ("MeshParentsModel", "links", "I", false)
  | 7 => ("MeshParentsModel", "one", "[I", true)
  | 8 => ("MeshParentsModel", "other", "[I", true)
  | 9 => ("MeshParentsModel", "slots", "[I", true)
  | 10 => ("MeshParentsModel", "now", "[I", true)
  | 11 => ("MeshParentsModel", "trial", "[I", true)
  | 12 => ("MeshParentsModel", "ahead", "[I", true)
  | 13 => ("MeshParentsModel", "diary", "[I", true)
  | 14 => ("MeshParentsModel", "acts", "I", false)
  | 15 => ("MeshParentsModel", "next", "I", false)
  | 16 => ("MeshParentsModel", "kept", "[I", true)
  | 17 => ("MeshParentsModel", "isKept", "[Z", true)
  | 18 => ("MeshParentsModel", "seenNode", "[I", true)
  | 19 => ("MeshParentsModel", "seenRounds", "[I", true)
  | 20 => ("MeshParentsModel", "seenIs", "[I", true)
  | 21 => ("MeshParentsModel", "seen", "I", false)
  | 22 => ("MeshParentsModel", "seed", "J", false)
  | 23 => ("MeshParentsModel", "come", "I", false)
  | 24 => ("MeshParentsModel", "parents", "[I", true)
  | 25 => ("MeshParentsModel", "worth", "[I", true)
  | 26 => ("MeshParentsModel", "readNodes", "I", false)
  | 27 => ("MeshParentsModel", "readSort", "[I", true)
  | 28 => ("MeshParentsModel", "readCycle", "[I", true)
  | 29 => ("MeshParentsModel", "readPhase", "[I", true)
  | 30 => ("MeshParentsModel", "readOffset", "[I", true)
  | 31 => ("MeshParentsModel", "readLinks", "I", false)
  | 32 => ("MeshParentsModel", "readOne", "[I", true)
  | 33 => ("MeshParentsModel", "readOther", "[I", true)
  | 34 => ("MeshParentsModel", "readLoss", "[I", true)
  | 35 => ("MeshParentsModel", "readBack", "[I", true)
  | 36 => ("MeshParentsModel", "readSlots", "[I", true)
  | 37 => ("MeshParentsModel", "readMargin", "I", false)
  | 38 => ("MeshParentsModel", "part", "I", false)
  | _ => ("MeshParentsModel", "place", "I", false)
def z_y7 : Nat → FieldType := fun k => match k with
  | 0 => .array .int
  | 1 => .int
  | 2 => .int
  | 3 => .array .int
  | 4 => .array .int
  | 5 => .array .int
  | 6 => .int
  | 7 => .array .int
  | 8 => .array .int
  | 9 => .array .int
  | 10 => .array .int
  | 11 => .array .int
  | 12 => .array .int
  | 13 => .array .int
  | 14 => .int
  | 15 => .int
  | 16 => .array .int
  | 17 => .array .boolean
  | 18 => .array .int
  | 19 => .array .int
  | 20 => .array .int
  | 21 => .int
  | 22 => .long
  | 23 => .int
  | 24 => .array .int
  | 25 => .array .int
  | 26 => .int
  | 27 => .array .int
  | 28 => .array .int
  | 29 => .array .int
  | 30 => .array .int
  | 31 => .int
  | 32 => .array .int
  | 33 => .array .int
  | 34 => .array .int
  | 35 => .array .int
  | 36 => .array .int
  | 37 => .int
  | 38 => .int
  | _ => .int
def z_cls : List vw_C := [("MeshParents$History", z_T0, 3), ("MeshParents$Link", z_T1, 7), ("MeshParents$Mesh", z_T2, 7), ("MeshParents$Node", z_T3, 18), ("MeshParents$Observations", z_T4, 4), ("MeshParents$Text", z_T5, 3), ("MeshParents", z_T6, 8), ("MeshParentsModel", z_T7, 40)]
def z_tys : List (Nat → FieldType) := [z_y0, z_y1, z_y2, z_y3, z_y4, z_y5, z_y6, z_y7]
def z_tb : List Cond := lw_tbl.filter goodWord
def z_at (i : Nat) (w : Cond) : Bool := decide (lw_tbl[i]? = some w) && goodWord w
theorem z_at_mem {i : Nat} {w : Cond} (h : z_at i w = true) : w ∈ z_tb := by
  simp only [z_at, Bool.and_eq_true, decide_eq_true_eq] at h
  exact List.mem_filter.mpr ⟨List.mem_of_getElem? h.1, h.2⟩
def z_lays (k n : Nat) (T : u_T) (C : String) : List Nat → Bool
  | [] => k == n
  | i :: r => z_at i (u_lay C T k) && z_lays (k + 1) n T C r
theorem z_lays_mem {n : Nat} {T : u_T} {C : String} : ∀ (r : List Nat) (k : Nat), z_lays k n T C r = true → ∀ j, k ≤ j → j < n → u_lay C T j ∈ z_tb
  | [], k, h, j, h1, h2 => by simp [z_lays] at h; omega
  | i :: r, k, h, j, h1, h2 => by
    simp only [z_lays, Bool.and_eq_true] at h
    by_cases e : j = k
    · subst e; exact z_at_mem h.1
    · exact z_lays_mem r (k + 1) h.2 j (by omega) h2
theorem z_lays_in {n : Nat} {T : u_T} {C : String} (r : List Nat) (h : z_lays 0 n T C r = true) : ∀ w ∈ u_ws C T n, w ∈ z_tb := by
  intro w hw
  obtain ⟨j, hj, rfl⟩ := List.mem_map.mp hw
  exact z_lays_mem r 0 h j (Nat.zero_le _) (List.mem_range.mp hj)
theorem z_in0 : ∀ w ∈ u_ws "MeshParents$History" z_T0 3, w ∈ z_tb := z_lays_in [251, 253, 255] (by decide +kernel)
theorem z_nm0 : ∀ a, a < 3 → ∀ b, b < 3 → a ≠ b → (z_T0 a).2.1 ≠ (z_T0 b).2.1 := by decide +kernel
theorem z_ok0 : ∀ k, k < 3 → parseFieldDescriptor (z_T0 k).2.2.1 = some (z_y0 k) := by decide +kernel
theorem z_ini0 : Cond.initialized "MeshParents$History" ∈ z_tb ∧ Cond.instantiable "MeshParents$History" 3 ∈ z_tb := ⟨z_at_mem (i := 50) (by decide +kernel), z_at_mem (i := 239) (by decide +kernel)⟩
theorem z_in1 : ∀ w ∈ u_ws "MeshParents$Link" z_T1 7, w ∈ z_tb := z_lays_in [190, 192, 194, 196, 198, 200, 202] (by decide +kernel)
theorem z_nm1 : ∀ a, a < 7 → ∀ b, b < 7 → a ≠ b → (z_T1 a).2.1 ≠ (z_T1 b).2.1 := by decide +kernel
theorem z_ok1 : ∀ k, k < 7 → parseFieldDescriptor (z_T1 k).2.2.1 = some (z_y1 k) := by decide +kernel
theorem z_ini1 : Cond.initialized "MeshParents$Link" ∈ z_tb ∧ Cond.instantiable "MeshParents$Link" 7 ∈ z_tb := ⟨z_at_mem (i := 49) (by decide +kernel), z_at_mem (i := 167) (by decide +kernel)⟩
theorem z_in2 : ∀ w ∈ u_ws "MeshParents$Mesh" z_T2 7, w ∈ z_tb := z_lays_in [223, 225, 227, 229, 231, 233, 235] (by decide +kernel)
theorem z_nm2 : ∀ a, a < 7 → ∀ b, b < 7 → a ≠ b → (z_T2 a).2.1 ≠ (z_T2 b).2.1 := by decide +kernel
theorem z_ok2 : ∀ k, k < 7 → parseFieldDescriptor (z_T2 k).2.2.1 = some (z_y2 k) := by decide +kernel
theorem z_ini2 : Cond.initialized "MeshParents$Mesh" ∈ z_tb ∧ Cond.instantiable "MeshParents$Mesh" 7 ∈ z_tb := ⟨z_at_mem (i := 47) (by decide +kernel), z_at_mem (i := 82) (by decide +kernel)⟩
theorem z_in3 : ∀ w ∈ u_ws "MeshParents$Node" z_T3 18, w ∈ z_tb := z_lays_in [128, 130, 132, 134, 136, 138, 140, 142, 144, 146, 148, 150, 152, 154, 156, 158, 160, 162] (by decide +kernel)
theorem z_nm3 : ∀ a, a < 18 → ∀ b, b < 18 → a ≠ b → (z_T3 a).2.1 ≠ (z_T3 b).2.1 := by decide +kernel
theorem z_ok3 : ∀ k, k < 18 → parseFieldDescriptor (z_T3 k).2.2.1 = some (z_y3 k) := by decide +kernel
theorem z_ini3 : Cond.initialized "MeshParents$Node" ∈ z_tb ∧ Cond.instantiable "MeshParents$Node" 18 ∈ z_tb := ⟨z_at_mem (i := 48) (by decide +kernel), z_at_mem (i := 89) (by decide +kernel)⟩
theorem z_in4 : ∀ w ∈ u_ws "MeshParents$Observations" z_T4 4, w ∈ z_tb := z_lays_in [269, 271, 273, 275] (by decide +kernel)
theorem z_nm4 : ∀ a, a < 4 → ∀ b, b < 4 → a ≠ b → (z_T4 a).2.1 ≠ (z_T4 b).2.1 := by decide +kernel
theorem z_ok4 : ∀ k, k < 4 → parseFieldDescriptor (z_T4 k).2.2.1 = some (z_y4 k) := by decide +kernel
theorem z_ini4 : Cond.initialized "MeshParents$Observations" ∈ z_tb ∧ Cond.instantiable "MeshParents$Observations" 4 ∈ z_tb := ⟨z_at_mem (i := 51) (by decide +kernel), z_at_mem (i := 259) (by decide +kernel)⟩
theorem z_in5 : ∀ w ∈ u_ws "MeshParents$Text" z_T5 3, w ∈ z_tb := z_lays_in [73, 75, 77] (by decide +kernel)
theorem z_nm5 : ∀ a, a < 3 → ∀ b, b < 3 → a ≠ b → (z_T5 a).2.1 ≠ (z_T5 b).2.1 := by decide +kernel
theorem z_ok5 : ∀ k, k < 3 → parseFieldDescriptor (z_T5 k).2.2.1 = some (z_y5 k) := by decide +kernel
theorem z_ini5 : Cond.initialized "MeshParents$Text" ∈ z_tb ∧ Cond.instantiable "MeshParents$Text" 3 ∈ z_tb := ⟨z_at_mem (i := 46) (by decide +kernel), z_at_mem (i := 64) (by decide +kernel)⟩
theorem z_in6 : ∀ w ∈ u_ws "MeshParents" z_T6 8, w ∈ z_tb := z_lays_in [287, 289, 291, 293, 295, 297, 299, 301] (by decide +kernel)
theorem z_nm6 : ∀ a, a < 8 → ∀ b, b < 8 → a ≠ b → (z_T6 a).2.1 ≠ (z_T6 b).2.1 := by decide +kernel
theorem z_ok6 : ∀ k, k < 8 → parseFieldDescriptor (z_T6 k).2.2.1 = some (z_y6 k) := by decide +kernel
theorem z_ini6 : Cond.initialized "MeshParents" ∈ z_tb ∧ Cond.instantiable "MeshParents" 8 ∈ z_tb := ⟨z_at_mem (i := 45) (by decide +kernel), z_at_mem (i := 56) (by decide +kernel)⟩
theorem z_in7 : ∀ w ∈ u_ws "MeshParentsModel" z_T7 40, w ∈ z_tb := z_lays_in [751, 753, 755, 757, 759, 761, 763, 765, 767, 769, 771, 773, 775, 777, 779, 781, 783, 785, 787, 789, 791, 793, 795, 797, 799, 801, 803, 805, 807, 809, 811, 813, 815, 817, 819, 821, 823, 825, 827, 829] (by decide +kernel)
theorem z_nm7 : ∀ a, a < 40 → ∀ b, b < 40 → a ≠ b → (z_T7 a).2.1 ≠ (z_T7 b).2.1 := by decide +kernel
theorem z_ok7 : ∀ k, k < 40 → parseFieldDescriptor (z_T7 k).2.2.1 = some (z_y7 k) := by decide +kernel
theorem z_ini7 : Cond.initialized "MeshParentsModel" ∈ z_tb ∧ Cond.instantiable "MeshParentsModel" 40 ∈ z_tb := ⟨z_at_mem (i := 52) (by decide +kernel), z_at_mem (i := 702) (by decide +kernel)⟩
theorem z_clsok : ∀ (ci : Nat) (r : vw_C), z_cls[ci]? = some r → (∀ w ∈ u_ws r.1 r.2.1 r.2.2, w ∈ z_tb) ∧ (∀ a, a < r.2.2 → ∀ b, b < r.2.2 → a ≠ b → (r.2.1 a).2.1 ≠ (r.2.1 b).2.1) ∧ (∃ y, z_tys[ci]? = some y ∧ ∀ k, k < r.2.2 → parseFieldDescriptor (r.2.1 k).2.2.1 = some (y k)) ∧ Cond.initialized r.1 ∈ z_tb ∧ Cond.instantiable r.1 r.2.2 ∈ z_tb := by
  intro ci r h
  match ci, h with
  | 0, h => cases h; exact ⟨z_in0, z_nm0, ⟨_, rfl, z_ok0⟩, z_ini0⟩
  | 1, h => cases h; exact ⟨z_in1, z_nm1, ⟨_, rfl, z_ok1⟩, z_ini1⟩
  | 2, h => cases h; exact ⟨z_in2, z_nm2, ⟨_, rfl, z_ok2⟩, z_ini2⟩
  | 3, h => cases h; exact ⟨z_in3, z_nm3, ⟨_, rfl, z_ok3⟩, z_ini3⟩
  | 4, h => cases h; exact ⟨z_in4, z_nm4, ⟨_, rfl, z_ok4⟩, z_ini4⟩
  | 5, h => cases h; exact ⟨z_in5, z_nm5, ⟨_, rfl, z_ok5⟩, z_ini5⟩
  | 6, h => cases h; exact ⟨z_in6, z_nm6, ⟨_, rfl, z_ok6⟩, z_ini6⟩
  | 7, h => cases h; exact ⟨z_in7, z_nm7, ⟨_, rfl, z_ok7⟩, z_ini7⟩
  | n + 8, h => simp [z_cls] at h
abbrev ZT : Type := MethodName × ByteArray × Nat × Option FieldType × Room
def z_mt0 : List ZT := [(⟨"MeshParents$History", "<init>", "()V"⟩, prog_2_method_1_code, 2, none, ⟨3, 281, 3248, 61⟩),
  (⟨"MeshParents$History", "clear", "()V"⟩, prog_2_method_2_code, 1, none, ⟨0, 0, 0, 0⟩),
  (⟨"MeshParents$History", "push", "(LMeshParents$Mesh;)V"⟩, prog_2_method_3_code, 2, none, ⟨2, 0, 0, 43⟩),
  (⟨"MeshParents$History", "popInto", "(LMeshParents$Mesh;)V"⟩, prog_2_method_4_code, 2, none, ⟨2, 0, 0, 43⟩),
  (⟨"MeshParents$Link", "<init>", "()V"⟩, prog_3_method_1_code, 1, none, ⟨1, 0, 0, 20⟩),
  (⟨"MeshParents$Link", "reset", "(IIIII)V"⟩, prog_3_method_2_code, 6, none, ⟨1, 0, 0, 21⟩),
  (⟨"MeshParents$Link", "copyFrom", "(LMeshParents$Link;)V"⟩, prog_3_method_3_code, 2, none, ⟨0, 0, 0, 0⟩),
  (⟨"MeshParents$Link", "flip", "()V"⟩, prog_3_method_4_code, 1, none, ⟨0, 0, 0, 0⟩),
  (⟨"MeshParents$Link", "setLoss", "(ZI)V"⟩, prog_3_method_5_code, 3, none, ⟨1, 0, 0, 21⟩),
  (⟨"MeshParents$Link", "computeAirtime", "()V"⟩, prog_3_method_6_code, 2, none, ⟨0, 0, 0, 0⟩),
  (⟨"MeshParents$Link", "joins", "(II)Z"⟩, prog_3_method_7_code, 3, some .boolean, ⟨0, 0, 0, 0⟩),
  (⟨"MeshParents$Mesh", "<init>", "()V"⟩, prog_4_method_1_code, 2, none, ⟨2, 19, 224, 40⟩),
  (⟨"MeshParents$Mesh", "reset", "(I)V"⟩, prog_4_method_2_code, 2, none, ⟨0, 0, 0, 0⟩),
  (⟨"MeshParents$Mesh", "copyFrom", "(LMeshParents$Mesh;)V"⟩, prog_4_method_3_code, 3, none, ⟨1, 0, 0, 21⟩),
  (⟨"MeshParents$Mesh", "hasNode", "(I)Z"⟩, prog_4_method_4_code, 2, some .boolean, ⟨0, 0, 0, 0⟩),
  (⟨"MeshParents$Mesh", "hasLink", "(I)Z"⟩, prog_4_method_5_code, 2, some .boolean, ⟨0, 0, 0, 0⟩),
  (⟨"MeshParents$Mesh", "isGateway", "(I)Z"⟩, prog_4_method_6_code, 2, some .boolean, ⟨1, 0, 0, 21⟩),
  (⟨"MeshParents$Mesh", "nodesOfKind", "(I)I"⟩, prog_4_method_7_code, 4, some .int, ⟨0, 0, 0, 0⟩),
  (⟨"MeshParents$Mesh", "downLinks", "()I"⟩, prog_4_method_8_code, 3, some .int, ⟨0, 0, 0, 0⟩),
  (⟨"MeshParents$Mesh", "linksAt", "(I)I"⟩, prog_4_method_9_code, 4, some .int, ⟨0, 0, 0, 0⟩),
  (⟨"MeshParents$Mesh", "linkBetween", "(II)I"⟩, prog_4_method_10_code, 4, some .int, ⟨1, 0, 0, 22⟩),
  (⟨"MeshParents$Mesh", "openOffer", "(II)I"⟩, prog_4_method_11_code, 4, some .int, ⟨2, 0, 0, 45⟩),
  (⟨"MeshParents$Mesh", "passRounds", "(II)V"⟩, prog_4_method_12_code, 4, none, ⟨4, 0, 0, 91⟩),
  (⟨"MeshParents$Mesh", "passRound", "(I)V"⟩, prog_4_method_13_code, 4, none, ⟨3, 0, 0, 68⟩),
  (⟨"MeshParents$Mesh", "exchangeOffers", "(LMeshParents$Link;)V"⟩, prog_4_method_14_code, 4, none, ⟨2, 0, 0, 45⟩),
  (⟨"MeshParents$Mesh", "endOfRoute", "(I)I"⟩, prog_4_method_15_code, 4, some .int, ⟨1, 0, 0, 21⟩),
  (⟨"MeshParents$Mesh", "isReached", "(I)Z"⟩, prog_4_method_16_code, 2, some .boolean, ⟨2, 0, 0, 44⟩),
  (⟨"MeshParents$Mesh", "reachedNodes", "()I"⟩, prog_4_method_17_code, 3, some .int, ⟨3, 0, 0, 65⟩),
  (⟨"MeshParents$Mesh", "load", "(I)I"⟩, prog_4_method_18_code, 4, some .int, ⟨2, 0, 0, 44⟩),
  (⟨"MeshParents$Mesh", "loadSpread", "()I"⟩, prog_4_method_19_code, 5, some .int, ⟨3, 0, 0, 67⟩)]
def z_mt1 : List ZT := [(⟨"MeshParents$Mesh", "allParents", "()J"⟩, prog_4_method_20_code, 4, some .long, ⟨0, 0, 0, 0⟩),
  (⟨"MeshParents$Mesh", "nodeProperty", "(II)I"⟩, prog_4_method_21_code, 5, some .int, ⟨3, 0, 0, 67⟩),
  (⟨"MeshParents$Node", "<init>", "()V"⟩, prog_5_method_1_code, 1, none, ⟨1, 0, 0, 20⟩),
  (⟨"MeshParents$Node", "reset", "(I)V"⟩, prog_5_method_2_code, 2, none, ⟨1, 0, 0, 20⟩),
  (⟨"MeshParents$Node", "copyFrom", "(LMeshParents$Node;)V"⟩, prog_5_method_3_code, 2, none, ⟨0, 0, 0, 0⟩),
  (⟨"MeshParents$Node", "dropParent", "()V"⟩, prog_5_method_4_code, 1, none, ⟨0, 0, 0, 0⟩),
  (⟨"MeshParents$Node", "isAwake", "(I)Z"⟩, prog_5_method_5_code, 2, some .boolean, ⟨0, 0, 0, 0⟩),
  (⟨"MeshParents$Node", "fixOffer", "(IZ)V"⟩, prog_5_method_6_code, 3, none, ⟨0, 0, 0, 0⟩),
  (⟨"MeshParents$Node", "isFeasible", "(LMeshParents$Node;)Z"⟩, prog_5_method_7_code, 2, some .boolean, ⟨0, 0, 0, 0⟩),
  (⟨"MeshParents$Node", "forgetHeard", "()V"⟩, prog_5_method_8_code, 1, none, ⟨0, 0, 0, 0⟩),
  (⟨"MeshParents$Node", "hear", "(LMeshParents$Node;II)V"⟩, prog_5_method_9_code, 5, none, ⟨1, 0, 0, 21⟩),
  (⟨"MeshParents$Node", "choose", "(I)V"⟩, prog_5_method_10_code, 2, none, ⟨1, 0, 0, 20⟩),
  (⟨"MeshParents$Node", "tightenBound", "()V"⟩, prog_5_method_11_code, 1, none, ⟨0, 0, 0, 0⟩),
  (⟨"MeshParents$Node", "asks", "()Z"⟩, prog_5_method_12_code, 1, some .boolean, ⟨0, 0, 0, 0⟩),
  (⟨"MeshParents$Observations", "<init>", "()V"⟩, prog_6_method_1_code, 1, none, ⟨1, 3, 18, 20⟩),
  (⟨"MeshParents$Observations", "add", "(IIZ)V"⟩, prog_6_method_2_code, 4, none, ⟨0, 0, 0, 0⟩),
  (⟨"MeshParents$Observations", "agreeAfter", "(II)Z"⟩, prog_6_method_3_code, 4, some .boolean, ⟨0, 0, 0, 0⟩),
  (⟨"MeshParents$Text", "<init>", "()V"⟩, prog_7_method_1_code, 1, none, ⟨1, 1, 100, 20⟩),
  (⟨"MeshParents$Text", "append", "(I)V"⟩, prog_7_method_2_code, 2, none, ⟨0, 0, 0, 0⟩),
  (⟨"MeshParents$Text", "readInto", "(LMeshParents$Mesh;)I"⟩, prog_7_method_3_code, 4, some .int, ⟨5, 0, 0, 114⟩),
  (⟨"MeshParents$Text", "readPart", "(LMeshParents$Mesh;)Z"⟩, prog_7_method_4_code, 2, some .boolean, ⟨4, 0, 0, 93⟩),
  (⟨"MeshParents$Text", "readGateway", "(LMeshParents$Mesh;)Z"⟩, prog_7_method_5_code, 4, some .boolean, ⟨3, 0, 0, 66⟩),
  (⟨"MeshParents$Text", "readRouter", "(LMeshParents$Mesh;)Z"⟩, prog_7_method_6_code, 2, some .boolean, ⟨2, 0, 0, 41⟩),
  (⟨"MeshParents$Text", "readLeaf", "(LMeshParents$Mesh;)Z"⟩, prog_7_method_7_code, 5, some .boolean, ⟨3, 0, 0, 66⟩),
  (⟨"MeshParents$Text", "readLink", "(LMeshParents$Mesh;)Z"⟩, prog_7_method_8_code, 8, some .boolean, ⟨3, 0, 0, 66⟩),
  (⟨"MeshParents$Text", "letterHere", "()I"⟩, prog_7_method_9_code, 1, some .int, ⟨0, 0, 0, 0⟩),
  (⟨"MeshParents$Text", "digitHere", "(II)I"⟩, prog_7_method_10_code, 4, some .int, ⟨1, 0, 0, 20⟩),
  (⟨"MeshParents$Text", "takeDigit", "(II)I"⟩, prog_7_method_11_code, 4, some .int, ⟨2, 0, 0, 43⟩),
  (⟨"MeshParents", "<init>", "()V"⟩, prog_1_method_1_code, 2, none, ⟨4, 370, 4304, 82⟩),
  (⟨"MeshParents", "write", "(I)I"⟩, prog_1_method_2_code, 2, some .int, ⟨1, 0, 0, 22⟩)]
def z_mt2 : List ZT := [(⟨"MeshParents", "wipe", "()I"⟩, prog_1_method_3_code, 2, some .int, ⟨0, 0, 0, 0⟩),
  (⟨"MeshParents", "fault", "()I"⟩, prog_1_method_4_code, 1, some .int, ⟨6, 0, 0, 137⟩),
  (⟨"MeshParents", "mesh", "()I"⟩, prog_1_method_5_code, 2, some .int, ⟨6, 0, 0, 137⟩),
  (⟨"MeshParents", "about", "(I)I"⟩, prog_1_method_6_code, 2, some .int, ⟨4, 0, 0, 87⟩),
  (⟨"MeshParents", "node", "(II)I"⟩, prog_1_method_7_code, 3, some .int, ⟨4, 0, 0, 91⟩),
  (⟨"MeshParents", "link", "(II)I"⟩, prog_1_method_8_code, 4, some .int, ⟨1, 0, 0, 21⟩),
  (⟨"MeshParents", "price", "(II)I"⟩, prog_1_method_9_code, 5, some .int, ⟨3, 0, 0, 68⟩),
  (⟨"MeshParents", "safe", "(II)I"⟩, prog_1_method_10_code, 4, some .int, ⟨3, 0, 0, 68⟩),
  (⟨"MeshParents", "round", "(I)I"⟩, prog_1_method_11_code, 2, some .int, ⟨5, 0, 0, 114⟩),
  (⟨"MeshParents", "turn", "(I)I"⟩, prog_1_method_12_code, 2, some .int, ⟨3, 0, 0, 64⟩),
  (⟨"MeshParents", "lose", "(IZI)I"⟩, prog_1_method_13_code, 4, some .int, ⟨3, 0, 0, 64⟩),
  (⟨"MeshParents", "offset", "(II)I"⟩, prog_1_method_14_code, 4, some .int, ⟨3, 0, 0, 64⟩),
  (⟨"MeshParents", "margin", "(I)I"⟩, prog_1_method_15_code, 3, some .int, ⟨3, 0, 0, 64⟩),
  (⟨"MeshParents", "undo", "()I"⟩, prog_1_method_16_code, 1, some .int, ⟨3, 0, 0, 64⟩),
  (⟨"MeshParents", "ahead", "(III)I"⟩, prog_1_method_17_code, 4, some .int, ⟨5, 0, 0, 114⟩),
  (⟨"MeshParents", "still", "()I"⟩, prog_1_method_18_code, 5, some .int, ⟨4, 0, 0, 91⟩),
  (⟨"MeshParents", "word", "(I)I"⟩, prog_1_method_19_code, 6, some .int, ⟨4, 0, 0, 91⟩),
  (⟨"MeshParents", "even", "(I)I"⟩, prog_1_method_20_code, 6, some .int, ⟨5, 0, 0, 114⟩),
  (⟨"MeshParents", "judge", "(IJ)I"⟩, prog_1_method_21_code, 6, some .int, ⟨6, 0, 0, 138⟩),
  (⟨"MeshParents", "see", "(III)I"⟩, prog_1_method_22_code, 4, some .int, ⟨1, 0, 0, 23⟩),
  (⟨"MeshParents", "unsee", "()I"⟩, prog_1_method_23_code, 2, some .int, ⟨0, 0, 0, 0⟩),
  (⟨"MeshParents", "which", "()I"⟩, prog_1_method_24_code, 3, some .int, ⟨5, 0, 0, 113⟩),
  (⟨"MeshParents", "share", "(IZ)I"⟩, prog_1_method_25_code, 11, some .int, ⟨6, 0, 0, 138⟩),
  (⟨"MeshParents", "chance", "(IZ)I"⟩, prog_1_method_26_code, 11, some .int, ⟨6, 0, 0, 136⟩),
  (⟨"MeshParents", "seed", "(J)J"⟩, prog_1_method_27_code, 5, some .long, ⟨0, 0, 0, 0⟩),
  (⟨"MeshParents", "drawn", "(I)I"⟩, prog_1_method_28_code, 5, some .int, ⟨4, 0, 0, 91⟩),
  (⟨"MeshParents", "keep", "(I)I"⟩, prog_1_method_29_code, 2, some .int, ⟨2, 0, 0, 43⟩),
  (⟨"MeshParents", "again", "(I)I"⟩, prog_1_method_30_code, 2, some .int, ⟨2, 0, 0, 43⟩),
  (⟨"MeshParents", "isWithin", "(III)Z"⟩, prog_1_method_31_code, 3, some .boolean, ⟨0, 0, 0, 0⟩),
  (⟨"MeshParents", "offerError", "(II)I"⟩, prog_1_method_32_code, 3, some .int, ⟨2, 0, 0, 42⟩)]
def z_mt3 : List ZT := [(⟨"MeshParents", "withoutEvents", "(JI)J"⟩, prog_1_method_33_code, 6, some .long, ⟨0, 0, 0, 0⟩),
  (⟨"MeshParents", "happens", "(I)Z"⟩, prog_1_method_34_code, 5, some .boolean, ⟨5, 0, 0, 114⟩),
  (⟨"MeshParents", "flipInTrial", "(I)Z"⟩, prog_1_method_35_code, 2, some .boolean, ⟨1, 0, 0, 21⟩),
  (⟨"MeshParents", "setOffsetInTrial", "(II)Z"⟩, prog_1_method_36_code, 3, some .boolean, ⟨2, 0, 0, 42⟩),
  (⟨"MeshParents", "explainsAll", "(I)Z"⟩, prog_1_method_37_code, 3, some .boolean, ⟨4, 0, 0, 91⟩),
  (⟨"MeshParents", "worth", "(I)I"⟩, prog_1_method_38_code, 5, some .int, ⟨5, 0, 0, 114⟩),
  (⟨"MeshParents", "reachesAllWithout", "(I)Z"⟩, prog_1_method_39_code, 3, some .boolean, ⟨5, 0, 0, 114⟩),
  (⟨"MeshParents", "power", "(II)J"⟩, prog_1_method_40_code, 5, some .long, ⟨0, 0, 0, 0⟩),
  (⟨"MeshParents", "inLowestTerms", "(JJZ)I"⟩, prog_1_method_41_code, 7, some .int, ⟨1, 0, 0, 30⟩),
  (⟨"MeshParents", "greatestCommonDivisor", "(JJ)J"⟩, prog_1_method_42_code, 11, some .long, ⟨0, 0, 0, 0⟩),
  (⟨"MeshParentsModel", "<init>", "()V"⟩, prog_9_method_1_code, 1, none, ⟨1, 27, 2386, 21⟩),
  (⟨"MeshParentsModel", "fresh", "()V"⟩, prog_9_method_3_code, 2, none, ⟨0, 0, 0, 0⟩),
  (⟨"MeshParentsModel", "copy", "([I[I)V"⟩, prog_9_method_4_code, 3, none, ⟨0, 0, 0, 0⟩),
  (⟨"MeshParentsModel", "in", "(JJJ)Z"⟩, prog_9_method_5_code, 6, some .boolean, ⟨0, 0, 0, 0⟩),
  (⟨"MeshParentsModel", "has", "(II)Z"⟩, prog_9_method_6_code, 2, some .boolean, ⟨0, 0, 0, 0⟩),
  (⟨"MeshParentsModel", "ones", "(I)I"⟩, prog_9_method_7_code, 3, some .int, ⟨0, 0, 0, 0⟩),
  (⟨"MeshParentsModel", "power", "(II)I"⟩, prog_9_method_8_code, 4, some .int, ⟨0, 0, 0, 0⟩),
  (⟨"MeshParentsModel", "factorial", "(I)I"⟩, prog_9_method_9_code, 3, some .int, ⟨0, 0, 0, 0⟩),
  (⟨"MeshParentsModel", "fraction", "(JJZ)I"⟩, prog_9_method_10_code, 11, some .int, ⟨0, 0, 0, 0⟩),
  (⟨"MeshParentsModel", "isNode", "(I)Z"⟩, prog_9_method_11_code, 2, some .boolean, ⟨1, 0, 0, 25⟩),
  (⟨"MeshParentsModel", "isGateway", "(I)Z"⟩, prog_9_method_12_code, 2, some .boolean, ⟨2, 0, 0, 46⟩),
  (⟨"MeshParentsModel", "isLink", "(I)Z"⟩, prog_9_method_13_code, 2, some .boolean, ⟨1, 0, 0, 25⟩),
  (⟨"MeshParentsModel", "write", "(I)I"⟩, prog_9_method_14_code, 2, some .int, ⟨1, 0, 0, 25⟩),
  (⟨"MeshParentsModel", "wipe", "()I"⟩, prog_9_method_15_code, 2, some .int, ⟨0, 0, 0, 0⟩),
  (⟨"MeshParentsModel", "areLinkedAsRead", "(II)Z"⟩, prog_9_method_16_code, 5, some .boolean, ⟨0, 0, 0, 0⟩),
  (⟨"MeshParentsModel", "isFullAsRead", "(I)Z"⟩, prog_9_method_17_code, 4, some .boolean, ⟨1, 0, 0, 24⟩),
  (⟨"MeshParentsModel", "mayLink", "()Z"⟩, prog_9_method_18_code, 3, some .boolean, ⟨2, 0, 0, 47⟩),
  (⟨"MeshParentsModel", "takeSign", "(I)Z"⟩, prog_9_method_19_code, 2, some .boolean, ⟨3, 0, 0, 69⟩),
  (⟨"MeshParentsModel", "takeOfGateway", "(I)Z"⟩, prog_9_method_20_code, 2, some .boolean, ⟨1, 0, 0, 25⟩),
  (⟨"MeshParentsModel", "takeOfLeaf", "(I)Z"⟩, prog_9_method_21_code, 2, some .boolean, ⟨1, 0, 0, 25⟩)]
def z_mt4 : List ZT := [(⟨"MeshParentsModel", "takeOfLink", "(I)Z"⟩, prog_9_method_22_code, 3, some .boolean, ⟨2, 0, 0, 47⟩),
  (⟨"MeshParentsModel", "take", "(I)Z"⟩, prog_9_method_23_code, 3, some .boolean, ⟨4, 0, 0, 90⟩),
  (⟨"MeshParentsModel", "readText", "()I"⟩, prog_9_method_24_code, 2, some .int, ⟨5, 0, 0, 112⟩),
  (⟨"MeshParentsModel", "fault", "()I"⟩, prog_9_method_25_code, 1, some .int, ⟨6, 0, 0, 133⟩),
  (⟨"MeshParentsModel", "mesh", "()I"⟩, prog_9_method_26_code, 2, some .int, ⟨6, 0, 0, 133⟩),
  (⟨"MeshParentsModel", "airtime", "([II)I"⟩, prog_9_method_27_code, 4, some .int, ⟨0, 0, 0, 0⟩),
  (⟨"MeshParentsModel", "linkOf", "([III)I"⟩, prog_9_method_28_code, 7, some .int, ⟨0, 0, 0, 0⟩),
  (⟨"MeshParentsModel", "offers", "([II)Z"⟩, prog_9_method_29_code, 3, some .boolean, ⟨1, 0, 0, 21⟩),
  (⟨"MeshParentsModel", "offered", "([II)I"⟩, prog_9_method_30_code, 3, some .int, ⟨0, 0, 0, 0⟩),
  (⟨"MeshParentsModel", "sequenceOf", "([II)I"⟩, prog_9_method_31_code, 3, some .int, ⟨0, 0, 0, 0⟩),
  (⟨"MeshParentsModel", "priceOf", "([III)I"⟩, prog_9_method_32_code, 5, some .int, ⟨2, 0, 0, 43⟩),
  (⟨"MeshParentsModel", "isSafe", "([III)Z"⟩, prog_9_method_33_code, 5, some .boolean, ⟨1, 0, 0, 22⟩),
  (⟨"MeshParentsModel", "isGood", "([III)Z"⟩, prog_9_method_34_code, 4, some .boolean, ⟨3, 0, 0, 67⟩),
  (⟨"MeshParentsModel", "isAwake", "(II)Z"⟩, prog_9_method_35_code, 3, some .boolean, ⟨0, 0, 0, 0⟩),
  (⟨"MeshParentsModel", "hears", "([II)Z"⟩, prog_9_method_36_code, 7, some .boolean, ⟨4, 0, 0, 90⟩),
  (⟨"MeshParentsModel", "goOn", "([I)V"⟩, prog_9_method_37_code, 4, none, ⟨5, 0, 0, 116⟩),
  (⟨"MeshParentsModel", "tryRounds", "(I)V"⟩, prog_9_method_38_code, 3, none, ⟨6, 0, 0, 139⟩),
  (⟨"MeshParentsModel", "endOf", "([II)I"⟩, prog_9_method_39_code, 5, some .int, ⟨1, 0, 0, 21⟩),
  (⟨"MeshParentsModel", "reached", "([I)I"⟩, prog_9_method_40_code, 4, some .int, ⟨2, 0, 0, 45⟩),
  (⟨"MeshParentsModel", "loadOf", "([II)I"⟩, prog_9_method_41_code, 5, some .int, ⟨2, 0, 0, 45⟩),
  (⟨"MeshParentsModel", "those", "(I)I"⟩, prog_9_method_42_code, 4, some .int, ⟨0, 0, 0, 0⟩),
  (⟨"MeshParentsModel", "downs", "()I"⟩, prog_9_method_43_code, 3, some .int, ⟨0, 0, 0, 0⟩),
  (⟨"MeshParentsModel", "about", "(I)I"⟩, prog_9_method_44_code, 2, some .int, ⟨3, 0, 0, 68⟩),
  (⟨"MeshParentsModel", "tell", "([III)I"⟩, prog_9_method_45_code, 6, some .int, ⟨3, 0, 0, 69⟩),
  (⟨"MeshParentsModel", "node", "(II)I"⟩, prog_9_method_46_code, 3, some .int, ⟨4, 0, 0, 94⟩),
  (⟨"MeshParentsModel", "link", "(II)I"⟩, prog_9_method_47_code, 3, some .int, ⟨2, 0, 0, 46⟩),
  (⟨"MeshParentsModel", "noTwo", "(II)I"⟩, prog_9_method_48_code, 3, some .int, ⟨2, 0, 0, 46⟩),
  (⟨"MeshParentsModel", "price", "(II)I"⟩, prog_9_method_49_code, 4, some .int, ⟨3, 0, 0, 68⟩),
  (⟨"MeshParentsModel", "safe", "(II)I"⟩, prog_9_method_50_code, 4, some .int, ⟨3, 0, 0, 68⟩),
  (⟨"MeshParentsModel", "note", "()V"⟩, prog_9_method_51_code, 2, none, ⟨0, 0, 0, 0⟩)]
def z_mt5 : List ZT := [(⟨"MeshParentsModel", "round", "(I)I"⟩, prog_9_method_52_code, 3, some .int, ⟨6, 0, 0, 139⟩),
  (⟨"MeshParentsModel", "turn", "(I)I"⟩, prog_9_method_53_code, 2, some .int, ⟨2, 0, 0, 46⟩),
  (⟨"MeshParentsModel", "lose", "(IZI)I"⟩, prog_9_method_54_code, 4, some .int, ⟨2, 0, 0, 46⟩),
  (⟨"MeshParentsModel", "offset", "(II)I"⟩, prog_9_method_55_code, 4, some .int, ⟨3, 0, 0, 67⟩),
  (⟨"MeshParentsModel", "margin", "(I)I"⟩, prog_9_method_56_code, 3, some .int, ⟨1, 0, 0, 25⟩),
  (⟨"MeshParentsModel", "undo", "()I"⟩, prog_9_method_57_code, 2, some .int, ⟨0, 0, 0, 0⟩),
  (⟨"MeshParentsModel", "ahead", "(III)I"⟩, prog_9_method_58_code, 4, some .int, ⟨7, 0, 0, 161⟩),
  (⟨"MeshParentsModel", "still", "()I"⟩, prog_9_method_59_code, 5, some .int, ⟨6, 0, 0, 139⟩),
  (⟨"MeshParentsModel", "word", "(I)I"⟩, prog_9_method_60_code, 5, some .int, ⟨6, 0, 0, 139⟩),
  (⟨"MeshParentsModel", "spread", "()I"⟩, prog_9_method_61_code, 5, some .int, ⟨3, 0, 0, 69⟩),
  (⟨"MeshParentsModel", "even", "(I)I"⟩, prog_9_method_62_code, 6, some .int, ⟨7, 0, 0, 161⟩),
  (⟨"MeshParentsModel", "judged", "(IIIII)Z"⟩, prog_9_method_63_code, 7, some .boolean, ⟨7, 0, 0, 161⟩),
  (⟨"MeshParentsModel", "hundredThousands", "(I)J"⟩, prog_9_method_64_code, 4, some .long, ⟨0, 0, 0, 0⟩),
  (⟨"MeshParentsModel", "judge", "(IJ)I"⟩, prog_9_method_65_code, 6, some .int, ⟨8, 0, 0, 187⟩),
  (⟨"MeshParentsModel", "see", "(III)I"⟩, prog_9_method_66_code, 4, some .int, ⟨2, 0, 0, 46⟩),
  (⟨"MeshParentsModel", "unsee", "()I"⟩, prog_9_method_67_code, 2, some .int, ⟨0, 0, 0, 0⟩),
  (⟨"MeshParentsModel", "isSoBy", "(II)Z"⟩, prog_9_method_68_code, 4, some .boolean, ⟨7, 0, 0, 161⟩),
  (⟨"MeshParentsModel", "which", "()I"⟩, prog_9_method_69_code, 5, some .int, ⟨8, 0, 0, 184⟩),
  (⟨"MeshParentsModel", "reachedBy", "(I)I"⟩, prog_9_method_70_code, 3, some .int, ⟨7, 0, 0, 161⟩),
  (⟨"MeshParentsModel", "share", "(IZ)I"⟩, prog_9_method_71_code, 8, some .int, ⟨8, 0, 0, 183⟩),
  (⟨"MeshParentsModel", "chance", "(IZ)I"⟩, prog_9_method_72_code, 9, some .int, ⟨7, 0, 0, 161⟩),
  (⟨"MeshParentsModel", "seed", "(J)J"⟩, prog_9_method_73_code, 5, some .long, ⟨0, 0, 0, 0⟩),
  (⟨"MeshParentsModel", "drawn", "(I)I"⟩, prog_9_method_74_code, 6, some .int, ⟨6, 0, 0, 139⟩),
  (⟨"MeshParentsModel", "keep", "(I)I"⟩, prog_9_method_75_code, 3, some .int, ⟨1, 0, 0, 25⟩),
  (⟨"MeshParentsModel", "again", "(I)I"⟩, prog_9_method_76_code, 3, some .int, ⟨1, 0, 0, 25⟩),
  (⟨"java/lang/Integer", "bitCount", "(I)I"⟩, prog_10_method_49_code, 1, some .int, ⟨0, 0, 0, 0⟩),
  (⟨"java/lang/Math", "abs", "(J)J"⟩, prog_11_method_61_code, 2, some .long, ⟨0, 0, 0, 0⟩),
  (⟨"java/lang/Math", "max", "(II)I"⟩, prog_11_method_65_code, 2, some .int, ⟨0, 0, 0, 0⟩),
  (⟨"java/lang/Math", "min", "(II)I"⟩, prog_11_method_69_code, 2, some .int, ⟨0, 0, 0, 0⟩),
  (⟨"MeshParentsLaw", "law", "([I)Z"⟩, code, 4, ret, ⟨11, 600000, 7302250, 426⟩)]
def z_mt : List ZT := z_mt0 ++ (z_mt1 ++ (z_mt2 ++ (z_mt3 ++ (z_mt4 ++ (z_mt5)))))
def z_me (i : Nat) : ZT := (z_mt[i]?).getD (⟨"", "", ""⟩, ⟨#[]⟩, 0, none, ⟨0, 0, 0, 0⟩)
def z_my (i : Nat) : MethodName := (z_me i).1
def z_mc (i : Nat) : ByteArray := (z_me i).2.1
def z_mL (i : Nat) : Nat := (z_me i).2.2.1
def z_mr (i : Nat) : Option FieldType := (z_me i).2.2.2.1
def z_rm (i : Nat) : Room := (z_me i).2.2.2.2
abbrev m_History_init : Nat := 0
abbrev m_History_clear : Nat := 1
abbrev m_History_push : Nat := 2
abbrev m_History_popInto : Nat := 3
abbrev m_Link_init : Nat := 4
abbrev m_Link_reset : Nat := 5
abbrev m_Link_copyFrom : Nat := 6
abbrev m_Link_flip : Nat := 7
abbrev m_Link_setLoss : Nat := 8
abbrev m_Link_computeAirtime : Nat := 9
abbrev m_Link_joins : Nat := 10
abbrev m_Mesh_init : Nat := 11
abbrev m_Mesh_reset : Nat := 12
abbrev m_Mesh_copyFrom : Nat := 13
abbrev m_Mesh_hasNode : Nat := 14
abbrev m_Mesh_hasLink : Nat := 15
abbrev m_Mesh_isGateway : Nat := 16
abbrev m_Mesh_nodesOfKind : Nat := 17
abbrev m_Mesh_downLinks : Nat := 18
abbrev m_Mesh_linksAt : Nat := 19
abbrev m_Mesh_linkBetween : Nat := 20
abbrev m_Mesh_openOffer : Nat := 21
abbrev m_Mesh_passRounds : Nat := 22
abbrev m_Mesh_passRound : Nat := 23
abbrev m_Mesh_exchangeOffers : Nat := 24
abbrev m_Mesh_endOfRoute : Nat := 25
abbrev m_Mesh_isReached : Nat := 26
abbrev m_Mesh_reachedNodes : Nat := 27
abbrev m_Mesh_load : Nat := 28
abbrev m_Mesh_loadSpread : Nat := 29
abbrev m_Mesh_allParents : Nat := 30
abbrev m_Mesh_nodeProperty : Nat := 31
abbrev m_Node_init : Nat := 32
abbrev m_Node_reset : Nat := 33
abbrev m_Node_copyFrom : Nat := 34
abbrev m_Node_dropParent : Nat := 35
abbrev m_Node_isAwake : Nat := 36
abbrev m_Node_fixOffer : Nat := 37
abbrev m_Node_isFeasible : Nat := 38
abbrev m_Node_forgetHeard : Nat := 39
abbrev m_Node_hear : Nat := 40
abbrev m_Node_choose : Nat := 41
abbrev m_Node_tightenBound : Nat := 42
abbrev m_Node_asks : Nat := 43
abbrev m_Observations_init : Nat := 44
abbrev m_Observations_add : Nat := 45
abbrev m_Observations_agreeAfter : Nat := 46
abbrev m_Text_init : Nat := 47
abbrev m_Text_append : Nat := 48
abbrev m_Text_readInto : Nat := 49
abbrev m_Text_readPart : Nat := 50
abbrev m_Text_readGateway : Nat := 51
abbrev m_Text_readRouter : Nat := 52
abbrev m_Text_readLeaf : Nat := 53
abbrev m_Text_readLink : Nat := 54
abbrev m_Text_letterHere : Nat := 55
abbrev m_Text_digitHere : Nat := 56
abbrev m_Text_takeDigit : Nat := 57
abbrev m_MP_init : Nat := 58
abbrev m_MP_write : Nat := 59
abbrev m_MP_wipe : Nat := 60
abbrev m_MP_fault : Nat := 61
abbrev m_MP_mesh : Nat := 62
abbrev m_MP_about : Nat := 63
abbrev m_MP_node : Nat := 64
abbrev m_MP_link : Nat := 65
abbrev m_MP_price : Nat := 66
abbrev m_MP_safe : Nat := 67
abbrev m_MP_round : Nat := 68
abbrev m_MP_turn : Nat := 69
abbrev m_MP_lose : Nat := 70
abbrev m_MP_offset : Nat := 71
abbrev m_MP_margin : Nat := 72
abbrev m_MP_undo : Nat := 73
abbrev m_MP_ahead : Nat := 74
abbrev m_MP_still : Nat := 75
abbrev m_MP_word : Nat := 76
abbrev m_MP_even : Nat := 77
abbrev m_MP_judge : Nat := 78
abbrev m_MP_see : Nat := 79
abbrev m_MP_unsee : Nat := 80
abbrev m_MP_which : Nat := 81
abbrev m_MP_share : Nat := 82
abbrev m_MP_chance : Nat := 83
abbrev m_MP_seed : Nat := 84
abbrev m_MP_drawn : Nat := 85
abbrev m_MP_keep : Nat := 86
abbrev m_MP_again : Nat := 87
abbrev m_MP_isWithin : Nat := 88
abbrev m_MP_offerError : Nat := 89
abbrev m_MP_withoutEvents : Nat := 90
abbrev m_MP_happens : Nat := 91
abbrev m_MP_flipInTrial : Nat := 92
abbrev m_MP_setOffsetInTrial : Nat := 93
abbrev m_MP_explainsAll : Nat := 94
abbrev m_MP_worth : Nat := 95
abbrev m_MP_reachesAllWithout : Nat := 96
abbrev m_MP_power : Nat := 97
abbrev m_MP_inLowestTerms : Nat := 98
abbrev m_MP_greatestCommonDivisor : Nat := 99
abbrev m_Model_init : Nat := 100
abbrev m_Model_fresh : Nat := 101
abbrev m_Model_copy : Nat := 102
abbrev m_Model_in : Nat := 103
abbrev m_Model_has : Nat := 104
abbrev m_Model_ones : Nat := 105
abbrev m_Model_power : Nat := 106
abbrev m_Model_factorial : Nat := 107
abbrev m_Model_fraction : Nat := 108
abbrev m_Model_isNode : Nat := 109
abbrev m_Model_isGateway : Nat := 110
abbrev m_Model_isLink : Nat := 111
abbrev m_Model_write : Nat := 112
abbrev m_Model_wipe : Nat := 113
abbrev m_Model_areLinkedAsRead : Nat := 114
abbrev m_Model_isFullAsRead : Nat := 115
abbrev m_Model_mayLink : Nat := 116
abbrev m_Model_takeSign : Nat := 117
abbrev m_Model_takeOfGateway : Nat := 118
abbrev m_Model_takeOfLeaf : Nat := 119
abbrev m_Model_takeOfLink : Nat := 120
abbrev m_Model_take : Nat := 121
abbrev m_Model_readText : Nat := 122
abbrev m_Model_fault : Nat := 123
abbrev m_Model_mesh : Nat := 124
abbrev m_Model_airtime : Nat := 125
abbrev m_Model_linkOf : Nat := 126
abbrev m_Model_offers : Nat := 127
abbrev m_Model_offered : Nat := 128
abbrev m_Model_sequenceOf : Nat := 129
abbrev m_Model_priceOf : Nat := 130
abbrev m_Model_isSafe : Nat := 131
abbrev m_Model_isGood : Nat := 132
abbrev m_Model_isAwake : Nat := 133
abbrev m_Model_hears : Nat := 134
abbrev m_Model_goOn : Nat := 135
abbrev m_Model_tryRounds : Nat := 136
abbrev m_Model_endOf : Nat := 137
abbrev m_Model_reached : Nat := 138
abbrev m_Model_loadOf : Nat := 139
abbrev m_Model_those : Nat := 140
abbrev m_Model_downs : Nat := 141
abbrev m_Model_about : Nat := 142
abbrev m_Model_tell : Nat := 143
abbrev m_Model_node : Nat := 144
abbrev m_Model_link : Nat := 145
abbrev m_Model_noTwo : Nat := 146
abbrev m_Model_price : Nat := 147
abbrev m_Model_safe : Nat := 148
abbrev m_Model_note : Nat := 149
abbrev m_Model_round : Nat := 150
abbrev m_Model_turn : Nat := 151
abbrev m_Model_lose : Nat := 152
abbrev m_Model_offset : Nat := 153
abbrev m_Model_margin : Nat := 154
abbrev m_Model_undo : Nat := 155
abbrev m_Model_ahead : Nat := 156
abbrev m_Model_still : Nat := 157
abbrev m_Model_word : Nat := 158
abbrev m_Model_spread : Nat := 159
abbrev m_Model_even : Nat := 160
abbrev m_Model_judged : Nat := 161
abbrev m_Model_hundredThousands : Nat := 162
abbrev m_Model_judge : Nat := 163
abbrev m_Model_see : Nat := 164
abbrev m_Model_unsee : Nat := 165
abbrev m_Model_isSoBy : Nat := 166
abbrev m_Model_which : Nat := 167
abbrev m_Model_reachedBy : Nat := 168
abbrev m_Model_share : Nat := 169
abbrev m_Model_chance : Nat := 170
abbrev m_Model_seed : Nat := 171
abbrev m_Model_drawn : Nat := 172
abbrev m_Model_keep : Nat := 173
abbrev m_Model_again : Nat := 174
abbrev m_Integer_bitCount : Nat := 175
abbrev m_Math_abs : Nat := 176
abbrev m_Math_max : Nat := 177
abbrev m_Math_min : Nat := 178
abbrev m_Law_law : Nat := 179
def z_mp : List (Nat × Nat × Nat × Nat) := [(241, 0, 50, 1), (408, 409, 50, 2), (494, 495, 50, 2), (570, 571, 50, 2), (169, 0, 49, 1), (384, 385, 49, 2), (404, 405, 49, 2), (546, 547, 49, 2), (554, 555, 49, 2), (388, 389, 49, 2), (380, 381, 49, 2), (84, 0, 47, 1), (328, 329, 47, 2), (396, 397, 47, 2), (432, 433, 47, 2), (457, 458, 47, 2), (469, 470, 47, 2), (416, 417, 47, 2), (436, 437, 47, 2), (372, 373, 47, 2), (376, 377, 47, 2), (473, 474, 47, 2), (499, 500, 47, 2), (503, 504, 47, 2), (511, 512, 47, 2), (428, 429, 47, 2), (424, 425, 47, 2), (420, 421, 47, 2), (449, 450, 47, 2), (597, 598, 47, 2), (582, 583, 47, 2), (445, 446, 47, 2), (91, 0, 48, 1), (352, 353, 48, 2), (400, 401, 48, 2), (356, 357, 48, 2), (520, 521, 48, 2), (477, 478, 48, 2), (486, 487, 48, 2), (507, 508, 48, 2), (515, 516, 48, 2), (524, 525, 48, 2), (528, 529, 48, 2), (532, 533, 48, 2), (261, 0, 51, 1), (633, 634, 51, 2), (649, 650, 51, 2), (66, 0, 46, 1), (312, 313, 46, 2), (324, 325, 46, 2), (344, 345, 46, 2), (348, 349, 46, 2), (360, 361, 46, 2), (364, 365, 46, 2), (368, 369, 46, 2), (332, 333, 46, 2), (340, 341, 46, 2), (336, 337, 46, 2), (58, 0, 45, 1), (305, 306, 45, 2), (316, 317, 45, 2), (320, 321, 45, 2), (392, 393, 45, 2), (412, 413, 45, 2), (440, 441, 45, 2), (453, 454, 45, 2), (461, 462, 45, 2), (482, 483, 45, 2), (490, 491, 45, 2), (542, 543, 45, 2), (550, 551, 45, 2), (558, 559, 45, 2), (562, 563, 45, 2), (566, 567, 45, 2), (574, 575, 45, 2), (578, 579, 45, 2), (588, 589, 45, 2), (593, 594, 45, 2), (607, 608, 45, 2), (629, 630, 45, 2), (637, 638, 45, 2), (641, 642, 45, 2), (653, 654, 45, 2), (673, 674, 45, 2), (684, 685, 45, 2), (688, 689, 45, 2), (694, 695, 45, 2), (698, 699, 45, 2), (309, 0, 45, 0), (466, 0, 45, 2), (611, 0, 45, 0), (616, 1, 45, 2), (620, 2, 45, 2), (624, 3, 45, 2), (646, 4, 45, 2), (660, 5, 45, 2), (681, 6, 45, 2), (677, 0, 45, 0), (664, 0, 45, 0), (670, 0, 45, 0), (704, 0, 52, 1), (709, 7, 52, 2), (990, 0, 52, 0), (838, 0, 52, 0), (906, 0, 52, 0), (1005, 0, 52, 0), (1105, 0, 52, 0), (1094, 0, 52, 0), (1097, 0, 52, 0), (918, 21, 52, 2), (1021, 38, 52, 2), (934, 24, 52, 2), (833, 834, 52, 2), (841, 842, 52, 2), (870, 13, 52, 2), (866, 12, 52, 2), (862, 11, 52, 2), (858, 10, 52, 2), (875, 14, 52, 2), (879, 15, 52, 2), (883, 16, 52, 2), (854, 9, 52, 2), (850, 8, 52, 2), (845, 846, 52, 2), (886, 887, 52, 2), (938, 25, 52, 2), (954, 28, 52, 2), (958, 29, 52, 2), (962, 30, 52, 2), (974, 32, 52, 2), (950, 27, 52, 2), (970, 31, 52, 2), (1002, 37, 52, 2), (994, 35, 52, 2), (998, 36, 52, 2), (987, 34, 52, 2), (1038, 39, 52, 2), (903, 19, 52, 2), (899, 18, 52, 2), (926, 23, 52, 2), (895, 17, 52, 2), (910, 20, 52, 2), (890, 891, 52, 2), (922, 22, 52, 2), (913, 914, 52, 2), (929, 930, 52, 2), (946, 26, 52, 2), (941, 942, 52, 2), (965, 966, 52, 2), (983, 33, 52, 2), (977, 978, 52, 2), (1008, 1009, 52, 2), (1012, 1013, 52, 2), (1016, 1017, 52, 2), (1024, 1025, 52, 2), (1028, 1029, 52, 2), (1032, 1033, 52, 2), (1041, 1042, 52, 2), (1045, 1046, 52, 2), (1054, 40, 52, 2), (1049, 1050, 52, 2), (1066, 41, 52, 2), (1061, 0, 52, 0), (1057, 1058, 52, 2), (1069, 1070, 52, 2), (1074, 1075, 52, 2), (1083, 42, 52, 2), (1078, 1079, 52, 2), (1091, 43, 52, 2), (1086, 1087, 52, 2), (1100, 1101, 52, 2), (1108, 1109, 52, 2), (1112, 1113, 52, 2), (1118, 1119, 52, 2), (1122, 1123, 52, 2), (536, 0, 53, 0), (667, 0, 54, 0), (601, 0, 54, 0), (604, 0, 54, 0)]
def z_cp : List Nat := [242, 410, 496, 572, 170, 386, 406, 548, 556, 390, 382, 85, 330, 398, 434, 459, 471, 418, 438, 374, 378, 475, 501, 505, 513, 430, 426, 422, 451, 599, 584, 447, 92, 354, 402, 358, 522, 479, 488, 509, 517, 526, 530, 534, 262, 635, 651, 67, 314, 326, 346, 350, 362, 366, 370, 334, 342, 338, 59, 307, 318, 322, 394, 414, 442, 455, 463, 484, 492, 544, 552, 560, 564, 568, 576, 580, 590, 595, 609, 631, 639, 643, 655, 675, 686, 690, 696, 700, 310, 467, 612, 617, 621, 625, 647, 661, 682, 678, 665, 671, 705, 710, 991, 839, 907, 1006, 1106, 1095, 1098, 919, 1022, 935, 835, 843, 871, 867, 863, 859, 876, 880, 884, 855, 851, 847, 888, 939, 955, 959, 963, 975, 951, 971, 1003, 995, 999, 988, 1039, 904, 900, 927, 896, 911, 892, 923, 915, 931, 947, 943, 967, 984, 979, 1010, 1014, 1018, 1026, 1030, 1034, 1043, 1047, 1055, 1051, 1067, 1062, 1059, 1071, 1076, 1084, 1080, 1092, 1088, 1102, 1110, 1114, 1120, 1124, 537, 668, 602, 605]
def z_mk (y : MethodName) (q : Nat × Nat × Nat × Nat) : Bool := z_at q.2.2.1 (.initialized y.cls) && (decide (y.cls ≠ "java/lang/invoke/MethodHandle" ∧ y.cls ≠ "java/lang/invoke/VarHandle") && match q.2.2.2 with
  | 0 => z_at q.1 (.static y)
  | 1 => z_at q.1 (.instanceMethod y) && decide (y.name = "<init>")
  | _ => z_at q.1 (.instanceMethod y) && z_at q.2.1 (.selects y.cls y y))
theorem z_mk_all : (List.range 179).all (fun i => z_mk (z_my i) ((z_mp[i]?).getD (0, 0, 0, 3))) = true := by decide +kernel
def z_cw (i : Nat) : Cond := .code (z_my i) (z_mc i) (z_mL i) (z_mr i)
set_option maxRecDepth 1000000 in
theorem z_cw_all : (List.range 179).map z_cw = z_cp.filterMap (fun i => lw_tbl[i]?) := by rfl
theorem z_cw_mem {i : Nat} (h : i < 179) : z_cw i ∈ z_tb := by
  have h1 : z_cw i ∈ (List.range 179).map z_cw := List.mem_map.mpr ⟨i, List.mem_range.mpr h, rfl⟩
  rw [z_cw_all] at h1
  obtain ⟨k, -, hk⟩ := List.mem_filterMap.mp h1
  exact List.mem_filter.mpr ⟨List.mem_of_getElem? hk, rfl⟩
def z_nest : List (String × Nat × MethodName × String) := [("MeshParents", 9, ⟨"MeshParents$Text", "<init>", "()V"⟩, "MeshParents"), ("MeshParents$Mesh", 17, ⟨"MeshParents$Node", "<init>", "()V"⟩, "MeshParents"), ("MeshParents$Mesh", 24, ⟨"MeshParents$Link", "<init>", "()V"⟩, "MeshParents"), ("MeshParents", 43, ⟨"MeshParents$Observations", "<init>", "()V"⟩, "MeshParents")]
theorem z_nest_in : ∀ q ∈ z_nest, Cond.methodLinkNest q.1 q.2.1 q.2.2.1 q.2.2.2 ∈ lw_tbl := by decide +kernel
theorem z_over_in : (Cond.arrayOver (.object "MeshParents$Node") ∈ lw_tbl ∧ Cond.arrayOver (.object "MeshParents$Link") ∈ lw_tbl ∧ Cond.arrayOver (.object "MeshParents$Mesh") ∈ lw_tbl) ∧ Cond.arrayClass .int ∈ z_tb ∧ Cond.arrayClass .boolean ∈ z_tb := ⟨by decide +kernel, z_at_mem (i := 80) (by decide +kernel), z_at_mem (i := 278) (by decide +kernel)⟩
theorem z_obj_in : Cond.instanceMethod objectInit ∈ z_tb ∧ Cond.code objectInit ⟨#[0xb1]⟩ 1 none ∈ z_tb := ⟨z_at_mem (i := 61) (by decide +kernel), List.mem_filter.mpr ⟨List.mem_of_getElem? (i := 62) rfl, rfl⟩⟩
theorem z_stat_in : Cond.laysStatic "MeshParents" "FACTORIAL" "[I" ∈ lw_tbl := List.mem_of_getElem? (i := 657) (by decide +kernel)
