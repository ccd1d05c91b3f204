section
-- ===== PART A: goes FIRST, ahead of the names: the tables' words, and 'selects' of the private methods out of them =====
/-- a private method of a class that the tables say can be made, by its rows of tables_1 -/
def lw_okq (q : MethodName × Nat) : Prop := (q.1.cls ≠ "java/lang/invoke/MethodHandle" ∧ q.1.cls ≠ "java/lang/invoke/VarHandle") ∧ Cond.instantiable q.1.cls q.2 ∈ tables_1 ∧ Cond.privateMethod q.1 ∈ tables_1 ∧ Cond.instanceMethod q.1 ∈ tables_1
theorem lw_p0 : lw_okq (⟨"MeshParents", "offerError", "(II)I"⟩, 8) := ⟨⟨by decide +kernel, by decide +kernel⟩, List.mem_of_getElem? (i := 12) (by decide +kernel), List.mem_of_getElem? (i := 421) (by decide +kernel), List.mem_of_getElem? (i := 422) (by decide +kernel)⟩
theorem lw_p1 : lw_okq (⟨"MeshParents", "happens", "(I)Z"⟩, 8) := ⟨⟨by decide +kernel, by decide +kernel⟩, List.mem_of_getElem? (i := 12) (by decide +kernel), List.mem_of_getElem? (i := 571) (by decide +kernel), List.mem_of_getElem? (i := 572) (by decide +kernel)⟩
theorem lw_p2 : lw_okq (⟨"MeshParents", "flipInTrial", "(I)Z"⟩, 8) := ⟨⟨by decide +kernel, by decide +kernel⟩, List.mem_of_getElem? (i := 12) (by decide +kernel), List.mem_of_getElem? (i := 575) (by decide +kernel), List.mem_of_getElem? (i := 576) (by decide +kernel)⟩
theorem lw_p3 : lw_okq (⟨"MeshParents", "setOffsetInTrial", "(II)Z"⟩, 8) := ⟨⟨by decide +kernel, by decide +kernel⟩, List.mem_of_getElem? (i := 12) (by decide +kernel), List.mem_of_getElem? (i := 579) (by decide +kernel), List.mem_of_getElem? (i := 580) (by decide +kernel)⟩
theorem lw_p4 : lw_okq (⟨"MeshParents", "explainsAll", "(I)Z"⟩, 8) := ⟨⟨by decide +kernel, by decide +kernel⟩, List.mem_of_getElem? (i := 12) (by decide +kernel), List.mem_of_getElem? (i := 601) (by decide +kernel), List.mem_of_getElem? (i := 602) (by decide +kernel)⟩
theorem lw_p5 : lw_okq (⟨"MeshParents", "worth", "(I)I"⟩, 8) := ⟨⟨by decide +kernel, by decide +kernel⟩, List.mem_of_getElem? (i := 12) (by decide +kernel), List.mem_of_getElem? (i := 615) (by decide +kernel), List.mem_of_getElem? (i := 616) (by decide +kernel)⟩
theorem lw_p6 : lw_okq (⟨"MeshParents", "reachesAllWithout", "(I)Z"⟩, 8) := ⟨⟨by decide +kernel, by decide +kernel⟩, List.mem_of_getElem? (i := 12) (by decide +kernel), List.mem_of_getElem? (i := 636) (by decide +kernel), List.mem_of_getElem? (i := 637) (by decide +kernel)⟩
theorem lw_p7 : lw_okq (⟨"MeshParentsModel", "fresh", "()V"⟩, 40) := ⟨⟨by decide +kernel, by decide +kernel⟩, List.mem_of_getElem? (i := 658) (by decide +kernel), List.mem_of_getElem? (i := 664) (by decide +kernel), List.mem_of_getElem? (i := 665) (by decide +kernel)⟩
theorem lw_p8 : lw_okq (⟨"MeshParentsModel", "readText", "()I"⟩, 40) := ⟨⟨by decide +kernel, by decide +kernel⟩, List.mem_of_getElem? (i := 658) (by decide +kernel), List.mem_of_getElem? (i := 805) (by decide +kernel), List.mem_of_getElem? (i := 806) (by decide +kernel)⟩
theorem lw_p9 : lw_okq (⟨"MeshParentsModel", "take", "(I)Z"⟩, 40) := ⟨⟨by decide +kernel, by decide +kernel⟩, List.mem_of_getElem? (i := 658) (by decide +kernel), List.mem_of_getElem? (i := 809) (by decide +kernel), List.mem_of_getElem? (i := 810) (by decide +kernel)⟩
theorem lw_p10 : lw_okq (⟨"MeshParentsModel", "takeSign", "(I)Z"⟩, 40) := ⟨⟨by decide +kernel, by decide +kernel⟩, List.mem_of_getElem? (i := 658) (by decide +kernel), List.mem_of_getElem? (i := 813) (by decide +kernel), List.mem_of_getElem? (i := 814) (by decide +kernel)⟩
theorem lw_p11 : lw_okq (⟨"MeshParentsModel", "mayLink", "()Z"⟩, 40) := ⟨⟨by decide +kernel, by decide +kernel⟩, List.mem_of_getElem? (i := 658) (by decide +kernel), List.mem_of_getElem? (i := 817) (by decide +kernel), List.mem_of_getElem? (i := 818) (by decide +kernel)⟩
theorem lw_p12 : lw_okq (⟨"MeshParentsModel", "isFullAsRead", "(I)Z"⟩, 40) := ⟨⟨by decide +kernel, by decide +kernel⟩, List.mem_of_getElem? (i := 658) (by decide +kernel), List.mem_of_getElem? (i := 821) (by decide +kernel), List.mem_of_getElem? (i := 822) (by decide +kernel)⟩
theorem lw_p13 : lw_okq (⟨"MeshParentsModel", "areLinkedAsRead", "(II)Z"⟩, 40) := ⟨⟨by decide +kernel, by decide +kernel⟩, List.mem_of_getElem? (i := 658) (by decide +kernel), List.mem_of_getElem? (i := 825) (by decide +kernel), List.mem_of_getElem? (i := 826) (by decide +kernel)⟩
theorem lw_p14 : lw_okq (⟨"MeshParentsModel", "takeOfGateway", "(I)Z"⟩, 40) := ⟨⟨by decide +kernel, by decide +kernel⟩, List.mem_of_getElem? (i := 658) (by decide +kernel), List.mem_of_getElem? (i := 830) (by decide +kernel), List.mem_of_getElem? (i := 831) (by decide +kernel)⟩
theorem lw_p15 : lw_okq (⟨"MeshParentsModel", "takeOfLeaf", "(I)Z"⟩, 40) := ⟨⟨by decide +kernel, by decide +kernel⟩, List.mem_of_getElem? (i := 658) (by decide +kernel), List.mem_of_getElem? (i := 834) (by decide +kernel), List.mem_of_getElem? (i := 835) (by decide +kernel)⟩
def lw_privs_1 : List (MethodName × Nat) := [(⟨"MeshParents", "offerError", "(II)I"⟩, 8), (⟨"MeshParents", "happens", "(I)Z"⟩, 8), (⟨"MeshParents", "flipInTrial", "(I)Z"⟩, 8), (⟨"MeshParents", "setOffsetInTrial", "(II)Z"⟩, 8), (⟨"MeshParents", "explainsAll", "(I)Z"⟩, 8), (⟨"MeshParents", "worth", "(I)I"⟩, 8), (⟨"MeshParents", "reachesAllWithout", "(I)Z"⟩, 8), (⟨"MeshParentsModel", "fresh", "()V"⟩, 40), (⟨"MeshParentsModel", "readText", "()I"⟩, 40), (⟨"MeshParentsModel", "take", "(I)Z"⟩, 40), (⟨"MeshParentsModel", "takeSign", "(I)Z"⟩, 40), (⟨"MeshParentsModel", "mayLink", "()Z"⟩, 40), (⟨"MeshParentsModel", "isFullAsRead", "(I)Z"⟩, 40), (⟨"MeshParentsModel", "areLinkedAsRead", "(II)Z"⟩, 40), (⟨"MeshParentsModel", "takeOfGateway", "(I)Z"⟩, 40), (⟨"MeshParentsModel", "takeOfLeaf", "(I)Z"⟩, 40)]
theorem lw_r1 : ∀ q ∈ lw_privs_1, lw_okq q := List.forall_mem_cons.mpr ⟨lw_p0, List.forall_mem_cons.mpr ⟨lw_p1, List.forall_mem_cons.mpr ⟨lw_p2, List.forall_mem_cons.mpr ⟨lw_p3, List.forall_mem_cons.mpr ⟨lw_p4, List.forall_mem_cons.mpr ⟨lw_p5, List.forall_mem_cons.mpr ⟨lw_p6, List.forall_mem_cons.mpr ⟨lw_p7, List.forall_mem_cons.mpr ⟨lw_p8, List.forall_mem_cons.mpr ⟨lw_p9, List.forall_mem_cons.mpr ⟨lw_p10, List.forall_mem_cons.mpr ⟨lw_p11, List.forall_mem_cons.mpr ⟨lw_p12, List.forall_mem_cons.mpr ⟨lw_p13, List.forall_mem_cons.mpr ⟨lw_p14, List.forall_mem_cons.mpr ⟨lw_p15, fun _ h => absurd h List.not_mem_nil⟩⟩⟩⟩⟩⟩⟩⟩⟩⟩⟩⟩⟩⟩⟩⟩
theorem lw_p16 : lw_okq (⟨"MeshParentsModel", "takeOfLink", "(I)Z"⟩, 40) := ⟨⟨by decide +kernel, by decide +kernel⟩, List.mem_of_getElem? (i := 658) (by decide +kernel), List.mem_of_getElem? (i := 838) (by decide +kernel), List.mem_of_getElem? (i := 839) (by decide +kernel)⟩
theorem lw_p17 : lw_okq (⟨"MeshParentsModel", "those", "(I)I"⟩, 40) := ⟨⟨by decide +kernel, by decide +kernel⟩, List.mem_of_getElem? (i := 658) (by decide +kernel), List.mem_of_getElem? (i := 850) (by decide +kernel), List.mem_of_getElem? (i := 851) (by decide +kernel)⟩
theorem lw_p18 : lw_okq (⟨"MeshParentsModel", "reached", "([I)I"⟩, 40) := ⟨⟨by decide +kernel, by decide +kernel⟩, List.mem_of_getElem? (i := 658) (by decide +kernel), List.mem_of_getElem? (i := 854) (by decide +kernel), List.mem_of_getElem? (i := 855) (by decide +kernel)⟩
theorem lw_p19 : lw_okq (⟨"MeshParentsModel", "endOf", "([II)I"⟩, 40) := ⟨⟨by decide +kernel, by decide +kernel⟩, List.mem_of_getElem? (i := 658) (by decide +kernel), List.mem_of_getElem? (i := 858) (by decide +kernel), List.mem_of_getElem? (i := 859) (by decide +kernel)⟩
theorem lw_p20 : lw_okq (⟨"MeshParentsModel", "downs", "()I"⟩, 40) := ⟨⟨by decide +kernel, by decide +kernel⟩, List.mem_of_getElem? (i := 658) (by decide +kernel), List.mem_of_getElem? (i := 865) (by decide +kernel), List.mem_of_getElem? (i := 866) (by decide +kernel)⟩
theorem lw_p21 : lw_okq (⟨"MeshParentsModel", "isNode", "(I)Z"⟩, 40) := ⟨⟨by decide +kernel, by decide +kernel⟩, List.mem_of_getElem? (i := 658) (by decide +kernel), List.mem_of_getElem? (i := 873) (by decide +kernel), List.mem_of_getElem? (i := 874) (by decide +kernel)⟩
theorem lw_p22 : lw_okq (⟨"MeshParentsModel", "tell", "([III)I"⟩, 40) := ⟨⟨by decide +kernel, by decide +kernel⟩, List.mem_of_getElem? (i := 658) (by decide +kernel), List.mem_of_getElem? (i := 877) (by decide +kernel), List.mem_of_getElem? (i := 878) (by decide +kernel)⟩
theorem lw_p23 : lw_okq (⟨"MeshParentsModel", "loadOf", "([II)I"⟩, 40) := ⟨⟨by decide +kernel, by decide +kernel⟩, List.mem_of_getElem? (i := 658) (by decide +kernel), List.mem_of_getElem? (i := 881) (by decide +kernel), List.mem_of_getElem? (i := 882) (by decide +kernel)⟩
theorem lw_p24 : lw_okq (⟨"MeshParentsModel", "isLink", "(I)Z"⟩, 40) := ⟨⟨by decide +kernel, by decide +kernel⟩, List.mem_of_getElem? (i := 658) (by decide +kernel), List.mem_of_getElem? (i := 889) (by decide +kernel), List.mem_of_getElem? (i := 890) (by decide +kernel)⟩
theorem lw_p25 : lw_okq (⟨"MeshParentsModel", "airtime", "([II)I"⟩, 40) := ⟨⟨by decide +kernel, by decide +kernel⟩, List.mem_of_getElem? (i := 658) (by decide +kernel), List.mem_of_getElem? (i := 893) (by decide +kernel), List.mem_of_getElem? (i := 894) (by decide +kernel)⟩
theorem lw_p26 : lw_okq (⟨"MeshParentsModel", "noTwo", "(II)I"⟩, 40) := ⟨⟨by decide +kernel, by decide +kernel⟩, List.mem_of_getElem? (i := 658) (by decide +kernel), List.mem_of_getElem? (i := 901) (by decide +kernel), List.mem_of_getElem? (i := 902) (by decide +kernel)⟩
theorem lw_p27 : lw_okq (⟨"MeshParentsModel", "priceOf", "([III)I"⟩, 40) := ⟨⟨by decide +kernel, by decide +kernel⟩, List.mem_of_getElem? (i := 658) (by decide +kernel), List.mem_of_getElem? (i := 905) (by decide +kernel), List.mem_of_getElem? (i := 906) (by decide +kernel)⟩
theorem lw_p28 : lw_okq (⟨"MeshParentsModel", "linkOf", "([III)I"⟩, 40) := ⟨⟨by decide +kernel, by decide +kernel⟩, List.mem_of_getElem? (i := 658) (by decide +kernel), List.mem_of_getElem? (i := 909) (by decide +kernel), List.mem_of_getElem? (i := 910) (by decide +kernel)⟩
theorem lw_p29 : lw_okq (⟨"MeshParentsModel", "offers", "([II)Z"⟩, 40) := ⟨⟨by decide +kernel, by decide +kernel⟩, List.mem_of_getElem? (i := 658) (by decide +kernel), List.mem_of_getElem? (i := 913) (by decide +kernel), List.mem_of_getElem? (i := 914) (by decide +kernel)⟩
theorem lw_p30 : lw_okq (⟨"MeshParentsModel", "offered", "([II)I"⟩, 40) := ⟨⟨by decide +kernel, by decide +kernel⟩, List.mem_of_getElem? (i := 658) (by decide +kernel), List.mem_of_getElem? (i := 917) (by decide +kernel), List.mem_of_getElem? (i := 918) (by decide +kernel)⟩
theorem lw_p31 : lw_okq (⟨"MeshParentsModel", "isSafe", "([III)Z"⟩, 40) := ⟨⟨by decide +kernel, by decide +kernel⟩, List.mem_of_getElem? (i := 658) (by decide +kernel), List.mem_of_getElem? (i := 925) (by decide +kernel), List.mem_of_getElem? (i := 926) (by decide +kernel)⟩
def lw_privs_2 : List (MethodName × Nat) := [(⟨"MeshParentsModel", "takeOfLink", "(I)Z"⟩, 40), (⟨"MeshParentsModel", "those", "(I)I"⟩, 40), (⟨"MeshParentsModel", "reached", "([I)I"⟩, 40), (⟨"MeshParentsModel", "endOf", "([II)I"⟩, 40), (⟨"MeshParentsModel", "downs", "()I"⟩, 40), (⟨"MeshParentsModel", "isNode", "(I)Z"⟩, 40), (⟨"MeshParentsModel", "tell", "([III)I"⟩, 40), (⟨"MeshParentsModel", "loadOf", "([II)I"⟩, 40), (⟨"MeshParentsModel", "isLink", "(I)Z"⟩, 40), (⟨"MeshParentsModel", "airtime", "([II)I"⟩, 40), (⟨"MeshParentsModel", "noTwo", "(II)I"⟩, 40), (⟨"MeshParentsModel", "priceOf", "([III)I"⟩, 40), (⟨"MeshParentsModel", "linkOf", "([III)I"⟩, 40), (⟨"MeshParentsModel", "offers", "([II)Z"⟩, 40), (⟨"MeshParentsModel", "offered", "([II)I"⟩, 40), (⟨"MeshParentsModel", "isSafe", "([III)Z"⟩, 40)]
theorem lw_r2 : ∀ q ∈ lw_privs_2, lw_okq q := List.forall_mem_cons.mpr ⟨lw_p16, List.forall_mem_cons.mpr ⟨lw_p17, List.forall_mem_cons.mpr ⟨lw_p18, List.forall_mem_cons.mpr ⟨lw_p19, List.forall_mem_cons.mpr ⟨lw_p20, List.forall_mem_cons.mpr ⟨lw_p21, List.forall_mem_cons.mpr ⟨lw_p22, List.forall_mem_cons.mpr ⟨lw_p23, List.forall_mem_cons.mpr ⟨lw_p24, List.forall_mem_cons.mpr ⟨lw_p25, List.forall_mem_cons.mpr ⟨lw_p26, List.forall_mem_cons.mpr ⟨lw_p27, List.forall_mem_cons.mpr ⟨lw_p28, List.forall_mem_cons.mpr ⟨lw_p29, List.forall_mem_cons.mpr ⟨lw_p30, List.forall_mem_cons.mpr ⟨lw_p31, fun _ h => absurd h List.not_mem_nil⟩⟩⟩⟩⟩⟩⟩⟩⟩⟩⟩⟩⟩⟩⟩⟩
theorem lw_p32 : lw_okq (⟨"MeshParentsModel", "sequenceOf", "([II)I"⟩, 40) := ⟨⟨by decide +kernel, by decide +kernel⟩, List.mem_of_getElem? (i := 658) (by decide +kernel), List.mem_of_getElem? (i := 929) (by decide +kernel), List.mem_of_getElem? (i := 930) (by decide +kernel)⟩
theorem lw_p33 : lw_okq (⟨"MeshParentsModel", "note", "()V"⟩, 40) := ⟨⟨by decide +kernel, by decide +kernel⟩, List.mem_of_getElem? (i := 658) (by decide +kernel), List.mem_of_getElem? (i := 938) (by decide +kernel), List.mem_of_getElem? (i := 939) (by decide +kernel)⟩
theorem lw_p34 : lw_okq (⟨"MeshParentsModel", "goOn", "([I)V"⟩, 40) := ⟨⟨by decide +kernel, by decide +kernel⟩, List.mem_of_getElem? (i := 658) (by decide +kernel), List.mem_of_getElem? (i := 942) (by decide +kernel), List.mem_of_getElem? (i := 943) (by decide +kernel)⟩
theorem lw_p35 : lw_okq (⟨"MeshParentsModel", "isAwake", "(II)Z"⟩, 40) := ⟨⟨by decide +kernel, by decide +kernel⟩, List.mem_of_getElem? (i := 658) (by decide +kernel), List.mem_of_getElem? (i := 949) (by decide +kernel), List.mem_of_getElem? (i := 950) (by decide +kernel)⟩
theorem lw_p36 : lw_okq (⟨"MeshParentsModel", "hears", "([II)Z"⟩, 40) := ⟨⟨by decide +kernel, by decide +kernel⟩, List.mem_of_getElem? (i := 658) (by decide +kernel), List.mem_of_getElem? (i := 953) (by decide +kernel), List.mem_of_getElem? (i := 954) (by decide +kernel)⟩
theorem lw_p37 : lw_okq (⟨"MeshParentsModel", "isGood", "([III)Z"⟩, 40) := ⟨⟨by decide +kernel, by decide +kernel⟩, List.mem_of_getElem? (i := 658) (by decide +kernel), List.mem_of_getElem? (i := 957) (by decide +kernel), List.mem_of_getElem? (i := 958) (by decide +kernel)⟩
theorem lw_p38 : lw_okq (⟨"MeshParentsModel", "isGateway", "(I)Z"⟩, 40) := ⟨⟨by decide +kernel, by decide +kernel⟩, List.mem_of_getElem? (i := 658) (by decide +kernel), List.mem_of_getElem? (i := 976) (by decide +kernel), List.mem_of_getElem? (i := 977) (by decide +kernel)⟩
theorem lw_p39 : lw_okq (⟨"MeshParentsModel", "tryRounds", "(I)V"⟩, 40) := ⟨⟨by decide +kernel, by decide +kernel⟩, List.mem_of_getElem? (i := 658) (by decide +kernel), List.mem_of_getElem? (i := 993) (by decide +kernel), List.mem_of_getElem? (i := 994) (by decide +kernel)⟩
theorem lw_p40 : lw_okq (⟨"MeshParentsModel", "spread", "()I"⟩, 40) := ⟨⟨by decide +kernel, by decide +kernel⟩, List.mem_of_getElem? (i := 658) (by decide +kernel), List.mem_of_getElem? (i := 1009) (by decide +kernel), List.mem_of_getElem? (i := 1010) (by decide +kernel)⟩
theorem lw_p41 : lw_okq (⟨"MeshParentsModel", "judged", "(IIIII)Z"⟩, 40) := ⟨⟨by decide +kernel, by decide +kernel⟩, List.mem_of_getElem? (i := 658) (by decide +kernel), List.mem_of_getElem? (i := 1021) (by decide +kernel), List.mem_of_getElem? (i := 1022) (by decide +kernel)⟩
theorem lw_p42 : lw_okq (⟨"MeshParentsModel", "isSoBy", "(II)Z"⟩, 40) := ⟨⟨by decide +kernel, by decide +kernel⟩, List.mem_of_getElem? (i := 658) (by decide +kernel), List.mem_of_getElem? (i := 1038) (by decide +kernel), List.mem_of_getElem? (i := 1039) (by decide +kernel)⟩
theorem lw_p43 : lw_okq (⟨"MeshParentsModel", "reachedBy", "(I)I"⟩, 40) := ⟨⟨by decide +kernel, by decide +kernel⟩, List.mem_of_getElem? (i := 658) (by decide +kernel), List.mem_of_getElem? (i := 1046) (by decide +kernel), List.mem_of_getElem? (i := 1047) (by decide +kernel)⟩
def lw_privs_3 : List (MethodName × Nat) := [(⟨"MeshParentsModel", "sequenceOf", "([II)I"⟩, 40), (⟨"MeshParentsModel", "note", "()V"⟩, 40), (⟨"MeshParentsModel", "goOn", "([I)V"⟩, 40), (⟨"MeshParentsModel", "isAwake", "(II)Z"⟩, 40), (⟨"MeshParentsModel", "hears", "([II)Z"⟩, 40), (⟨"MeshParentsModel", "isGood", "([III)Z"⟩, 40), (⟨"MeshParentsModel", "isGateway", "(I)Z"⟩, 40), (⟨"MeshParentsModel", "tryRounds", "(I)V"⟩, 40), (⟨"MeshParentsModel", "spread", "()I"⟩, 40), (⟨"MeshParentsModel", "judged", "(IIIII)Z"⟩, 40), (⟨"MeshParentsModel", "isSoBy", "(II)Z"⟩, 40), (⟨"MeshParentsModel", "reachedBy", "(I)I"⟩, 40)]
theorem lw_r3 : ∀ q ∈ lw_privs_3, lw_okq q := List.forall_mem_cons.mpr ⟨lw_p32, List.forall_mem_cons.mpr ⟨lw_p33, List.forall_mem_cons.mpr ⟨lw_p34, List.forall_mem_cons.mpr ⟨lw_p35, List.forall_mem_cons.mpr ⟨lw_p36, List.forall_mem_cons.mpr ⟨lw_p37, List.forall_mem_cons.mpr ⟨lw_p38, List.forall_mem_cons.mpr ⟨lw_p39, List.forall_mem_cons.mpr ⟨lw_p40, List.forall_mem_cons.mpr ⟨lw_p41, List.forall_mem_cons.mpr ⟨lw_p42, List.forall_mem_cons.mpr ⟨lw_p43, fun _ h => absurd h List.not_mem_nil⟩⟩⟩⟩⟩⟩⟩⟩⟩⟩⟩⟩
def lw_privs : List (MethodName × Nat) := lw_privs_1 ++ (lw_privs_2 ++ (lw_privs_3))
def lw_tbl : List Cond := k2_sels lw_privs ++ tables_1
theorem lw_privs_ok : ∀ q ∈ lw_privs, lw_okq q := by
  show ∀ q ∈ lw_privs_1 ++ (lw_privs_2 ++ (lw_privs_3)), lw_okq q
  exact List.forall_mem_append.mpr ⟨lw_r1, List.forall_mem_append.mpr ⟨lw_r2, lw_r3⟩⟩
/-! tables of the classes and methods (written by wip/whole/gen01.py) -/
def z_T0 : u_T := fun k => match k with
  | 0 => ("MeshParents$History", "rows", "[LMeshParents$Mesh;", true)
  | 1 => ("MeshParents$History", "oldest", "I", false)
  | _ => ("MeshParents$History", "count", "I", false)
def z_y0 : Nat → FieldType := fun k => match k with
  | 0 => .array (.object "MeshParents$Mesh")
  | 1 => .int
  | _ => .int
def z_T1 : u_T := fun k => match k with
  | 0 => ("MeshParents$Link", "first", "I", false)
  | 1 => ("MeshParents$Link", "second", "I", false)
  | 2 => ("MeshParents$Link", "loss", "I", false)
  | 3 => ("MeshParents$Link", "lossBack", "I", false)
  | 4 => ("MeshParents$Link", "slots", "I", false)
  | 5 => ("MeshParents$Link", "airtime", "I", false)
  | _ => ("MeshParents$Link", "isDown", "Z", false)
def z_y1 : Nat → FieldType := fun k => match k with
  | 0 => .int
  | 1 => .int
  | 2 => .int
  | 3 => .int
  | 4 => .int
  | 5 => .int
  | _ => .boolean
def z_T2 : u_T := fun k => match k with
  | 0 => ("MeshParents$Mesh", "nodes", "[LMeshParents$Node;", true)
  | 1 => ("MeshParents$Mesh", "links", "[LMeshParents$Link;", true)
  | 2 => ("MeshParents$Mesh", "nodeCount", "I", false)
  | 3 => ("MeshParents$Mesh", "linkCount", "I", false)
  | 4 => ("MeshParents$Mesh", "margin", "I", false)
  | 5 => ("MeshParents$Mesh", "sequence", "I", false)
  | _ => ("MeshParents$Mesh", "rounds", "I", false)
def z_y2 : Nat → FieldType := fun k => match k with
  | 0 => .array (.object "MeshParents$Node")
  | 1 => .array (.object "MeshParents$Link")
  | 2 => .int
  | 3 => .int
  | 4 => .int
  | 5 => .int
  | _ => .int
def z_T3 : u_T := fun k => match k with
  | 0 => ("MeshParents$Node", "kind", "I", false)
  | 1 => ("MeshParents$Node", "offset", "I", false)
  | 2 => ("MeshParents$Node", "cycle", "I", false)
  | 3 => ("MeshParents$Node", "phase", "I", false)
  | 4 => ("MeshParents$Node", "parent", "I", false)
  | 5 => ("MeshParents$Node", "cost", "I", false)
  | 6 => ("MeshParents$Node", "sequence", "I", false)
  | 7 => ("MeshParents$Node", "boundSequence", "I", false)
  | 8 => ("MeshParents$Node", "boundCost", "I", false)
  | 9 => ("MeshParents$Node", "offers", "Z", false)
  | 10 => ("MeshParents$Node", "offerSequence", "I", false)
  | 11 => ("MeshParents$Node", "offerCost", "I", false)
  | 12 => ("MeshParents$Node", "heardOffer", "Z", false)
  | 13 => ("MeshParents$Node", "goodParent", "LMeshParents$Node;", false)
  | 14 => ("MeshParents$Node", "parentPrice", "I", false)
  | 15 => ("MeshParents$Node", "best", "LMeshParents$Node;", false)
  | 16 => ("MeshParents$Node", "bestNumber", "I", false)
  | _ => ("MeshParents$Node", "bestPrice", "I", false)
def z_y3 : Nat → FieldType := fun k => match k with
  | 0 => .int
  | 1 => .int
  | 2 => .int
  | 3 => .int
  | 4 => .int
  | 5 => .int
  | 6 => .int
  | 7 => .int
  | 8 => .int
  | 9 => .boolean
  | 10 => .int
  | 11 => .int
  | 12 => .boolean
  | 13 => .object "MeshParents$Node"
  | 14 => .int
  | 15 => .object "MeshParents$Node"
  | 16 => .int
  | _ => .int
def z_T4 : u_T := fun k => match k with
  | 0 => ("MeshParents$Observations", "node", "[I", true)
  | 1 => ("MeshParents$Observations", "after", "[I", true)
  | 2 => ("MeshParents$Observations", "isReached", "[Z", true)
  | _ => ("MeshParents$Observations", "count", "I", false)
def z_y4 : Nat → FieldType := fun k => match k with
  | 0 => .array .int
  | 1 => .array .int
  | 2 => .array .boolean
  | _ => .int
def z_T5 : u_T := fun k => match k with
  | 0 => ("MeshParents$Text", "letters", "[I", true)
  | 1 => ("MeshParents$Text", "length", "I", false)
  | _ => ("MeshParents$Text", "place", "I", false)
def z_y5 : Nat → FieldType := fun k => match k with
  | 0 => .array .int
  | 1 => .int
  | _ => .int
def z_T6 : u_T := fun k => match k with
  | 0 => ("MeshParents", "text", "LMeshParents$Text;", true)
  | 1 => ("MeshParents", "now", "LMeshParents$Mesh;", true)
  | 2 => ("MeshParents", "trial", "LMeshParents$Mesh;", true)
  | 3 => ("MeshParents", "history", "LMeshParents$History;", true)
  | 4 => ("MeshParents", "saved", "[LMeshParents$Mesh;", true)
  | 5 => ("MeshParents", "isSaved", "[Z", true)
  | 6 => ("MeshParents", "observations", "LMeshParents$Observations;", true)
  | _ => ("MeshParents", "random", "J", false)
def z_y6 : Nat → FieldType := fun k => match k with
  | 0 => .object "MeshParents$Text"
  | 1 => .object "MeshParents$Mesh"
  | 2 => .object "MeshParents$Mesh"
  | 3 => .object "MeshParents$History"
  | 4 => .array (.object "MeshParents$Mesh")
  | 5 => .array .boolean
  | 6 => .object "MeshParents$Observations"
  | _ => .long
def z_T7 : u_T := fun k => match k with
  | 0 => ("MeshParentsModel", "text", "[I", true)
  | 1 => ("MeshParentsModel", "length", "I", false)
  | 2 => ("MeshParentsModel", "nodes", "I", false)
  | 3 => ("MeshParentsModel", "sort", "[I", true)
  | 4 => ("MeshParentsModel", "cycle", "[I", true)
  | 5 => ("MeshParentsModel", "phase", "[I", true)
  | 6 => ("MeshParentsModel", "links", "I", false)
  | 7 => ("MeshParentsModel", "one", "[I", true)
  | 8 => ("MeshParentsModel", "other", "[I", true)
  | 9 => ("MeshParentsModel", "slots", "[I", true)
  | 10 => ("MeshParentsModel", "now", "[I", true)
  | 11 => ("MeshParentsModel", "trial", "[I", true)
  | 12 => ("MeshParentsModel", "ahead", "[I", true)
  | 13 => ("MeshParentsModel", "diary", "[I", true)
  | 14 => ("MeshParentsModel", "acts", "I", false)
  | 15 => ("MeshParentsModel", "next", "I", false)
  | 16 => ("MeshParentsModel", "kept", "[I", true)
  | 17 => ("MeshParentsModel", "isKept", "[Z", true)
  | 18 => ("MeshParentsModel", "seenNode", "[I", true)
  | 19 => ("MeshParentsModel", "seenRounds", "[I", true)
  | 20 => ("MeshParentsModel", "seenIs", "[I", true)
  | 21 => ("MeshParentsModel", "seen", "I", false)
  | 22 => ("MeshParentsModel", "seed", "J", false)
  | 23 => ("MeshParentsModel", "come", "I", false)
  | 24 => ("MeshParentsModel", "parents", "[I", true)
  | 25 => ("MeshParentsModel", "worth", "[I", true)
  | 26 => ("MeshParentsModel", "readNodes", "I", false)
  | 27 => ("MeshParentsModel", "readSort", "[I", true)
  | 28 => ("MeshParentsModel", "readCycle", "[I", true)
  | 29 => ("MeshParentsModel", "readPhase", "[I", true)
  | 30 => ("MeshParentsModel", "readOffset", "[I", true)
  | 31 => ("MeshParentsModel", "readLinks", "I", false)
  | 32 => ("MeshParentsModel", "readOne", "[I", true)
  | 33 => ("MeshParentsModel", "readOther", "[I", true)
  | 34 => ("MeshParentsModel", "readLoss", "[I", true)
  | 35 => ("MeshParentsModel", "readBack", "[I", true)
  | 36 => ("MeshParentsModel", "readSlots", "[I", true)
  | 37 => ("MeshParentsModel", "readMargin", "I", false)
  | 38 => ("MeshParentsModel", "part", "I", false)
  | _ => ("MeshParentsModel", "place", "I", false)
def z_y7 : Nat → FieldType := fun k => match k with
  | 0 => .array .int
  | 1 => .int
  | 2 => .int
  | 3 => .array .int
  | 4 => .array .int
  | 5 => .array .int
  | 6 => .int
  | 7 => .array .int
  | 8 => .array .int
  | 9 => .array .int
  | 10 => .array .int
  | 11 => .array .int
  | 12 => .array .int
  | 13 => .array .int
  | 14 => .int
  | 15 => .int
  | 16 => .array .int
  | 17 => .array .boolean
  | 18 => .array .int
  | 19 => .array .int
  | 20 => .array .int
  | 21 => .int
  | 22 => .long
  | 23 => .int
  | 24 => .array .int
  | 25 => .array .int
  | 26 => .int
  | 27 => .array .int
  | 28 => .array .int
  | 29 => .array .int
  | 30 => .array .int
  | 31 => .int
  | 32 => .array .int
  | 33 => .array .int
  | 34 => .array .int
  | 35 => .array .int
  | 36 => .array .int
  | 37 => .int
  | 38 => .int
  | _ => .int
def z_cls : List vw_C := [("MeshParents$History", z_T0, 3), ("MeshParents$Link", z_T1, 7), ("MeshParents$Mesh", z_T2, 7), ("MeshParents$Node", z_T3, 18), ("MeshParents$Observations", z_T4, 4), ("MeshParents$Text", z_T5, 3), ("MeshParents", z_T6, 8), ("MeshParentsModel", z_T7, 40)]
def z_tys : List (Nat → FieldType) := [z_y0, z_y1, z_y2, z_y3, z_y4, z_y5, z_y6, z_y7]
def z_tb : List Cond := lw_tbl.filter goodWord
def z_at (i : Nat) (w : Cond) : Bool := decide (lw_tbl[i]? = some w) && goodWord w
theorem z_at_mem {i : Nat} {w : Cond} (h : z_at i w = true) : w ∈ z_tb := by
  simp only [z_at, Bool.and_eq_true, decide_eq_true_eq] at h
  exact List.mem_filter.mpr ⟨List.mem_of_getElem? h.1, h.2⟩
def z_lays (k n : Nat) (T : u_T) (C : String) : List Nat → Bool
  | [] => k == n
  | i :: r => z_at i (u_lay C T k) && z_lays (k + 1) n T C r
theorem z_lays_mem {n : Nat} {T : u_T} {C : String} : ∀ (r : List Nat) (k : Nat), z_lays k n T C r = true → ∀ j, k ≤ j → j < n → u_lay C T j ∈ z_tb
  | [], k, h, j, h1, h2 => by simp [z_lays] at h; omega
  | i :: r, k, h, j, h1, h2 => by
    simp only [z_lays, Bool.and_eq_true] at h
    by_cases e : j = k
    · subst e; exact z_at_mem h.1
    · exact z_lays_mem r (k + 1) h.2 j (by omega) h2
theorem z_lays_in {n : Nat} {T : u_T} {C : String} (r : List Nat) (h : z_lays 0 n T C r = true) : ∀ w ∈ u_ws C T n, w ∈ z_tb := by
  intro w hw
  obtain ⟨j, hj, rfl⟩ := List.mem_map.mp hw
  exact z_lays_mem r 0 h j (Nat.zero_le _) (List.mem_range.mp hj)
theorem z_in0 : ∀ w ∈ u_ws "MeshParents$History" z_T0 3, w ∈ z_tb := z_lays_in [251, 253, 255] (by decide +kernel)
theorem z_nm0 : ∀ a, a < 3 → ∀ b, b < 3 → a ≠ b → (z_T0 a).2.1 ≠ (z_T0 b).2.1 := by decide +kernel
theorem z_ok0 : ∀ k, k < 3 → parseFieldDescriptor (z_T0 k).2.2.1 = some (z_y0 k) := by decide +kernel
theorem z_ini0 : Cond.initialized "MeshParents$History" ∈ z_tb ∧ Cond.instantiable "MeshParents$History" 3 ∈ z_tb := ⟨z_at_mem (i := 50) (by decide +kernel), z_at_mem (i := 239) (by decide +kernel)⟩
theorem z_in1 : ∀ w ∈ u_ws "MeshParents$Link" z_T1 7, w ∈ z_tb := z_lays_in [190, 192, 194, 196, 198, 200, 202] (by decide +kernel)
theorem z_nm1 : ∀ a, a < 7 → ∀ b, b < 7 → a ≠ b → (z_T1 a).2.1 ≠ (z_T1 b).2.1 := by decide +kernel
theorem z_ok1 : ∀ k, k < 7 → parseFieldDescriptor (z_T1 k).2.2.1 = some (z_y1 k) := by decide +kernel
theorem z_ini1 : Cond.initialized "MeshParents$Link" ∈ z_tb ∧ Cond.instantiable "MeshParents$Link" 7 ∈ z_tb := ⟨z_at_mem (i := 49) (by decide +kernel), z_at_mem (i := 167) (by decide +kernel)⟩
theorem z_in2 : ∀ w ∈ u_ws "MeshParents$Mesh" z_T2 7, w ∈ z_tb := z_lays_in [223, 225, 227, 229, 231, 233, 235] (by decide +kernel)
theorem z_nm2 : ∀ a, a < 7 → ∀ b, b < 7 → a ≠ b → (z_T2 a).2.1 ≠ (z_T2 b).2.1 := by decide +kernel
theorem z_ok2 : ∀ k, k < 7 → parseFieldDescriptor (z_T2 k).2.2.1 = some (z_y2 k) := by decide +kernel
theorem z_ini2 : Cond.initialized "MeshParents$Mesh" ∈ z_tb ∧ Cond.instantiable "MeshParents$Mesh" 7 ∈ z_tb := ⟨z_at_mem (i := 47) (by decide +kernel), z_at_mem (i := 82) (by decide +kernel)⟩
theorem z_in3 : ∀ w ∈ u_ws "MeshParents$Node" z_T3 18, w ∈ z_tb := z_lays_in [128, 130, 132, 134, 136, 138, 140, 142, 144, 146, 148, 150, 152, 154, 156, 158, 160, 162] (by decide +kernel)
theorem z_nm3 : ∀ a, a < 18 → ∀ b, b < 18 → a ≠ b → (z_T3 a).2.1 ≠ (z_T3 b).2.1 := by decide +kernel
theorem z_ok3 : ∀ k, k < 18 → parseFieldDescriptor (z_T3 k).2.2.1 = some (z_y3 k) := by decide +kernel
theorem z_ini3 : Cond.initialized "MeshParents$Node" ∈ z_tb ∧ Cond.instantiable "MeshParents$Node" 18 ∈ z_tb := ⟨z_at_mem (i := 48) (by decide +kernel), z_at_mem (i := 89) (by decide +kernel)⟩
theorem z_in4 : ∀ w ∈ u_ws "MeshParents$Observations" z_T4 4, w ∈ z_tb := z_lays_in [269, 271, 273, 275] (by decide +kernel)
theorem z_nm4 : ∀ a, a < 4 → ∀ b, b < 4 → a ≠ b → (z_T4 a).2.1 ≠ (z_T4 b).2.1 := by decide +kernel
theorem z_ok4 : ∀ k, k < 4 → parseFieldDescriptor (z_T4 k).2.2.1 = some (z_y4 k) := by decide +kernel
theorem z_ini4 : Cond.initialized "MeshParents$Observations" ∈ z_tb ∧ Cond.instantiable "MeshParents$Observations" 4 ∈ z_tb := ⟨z_at_mem (i := 51) (by decide +kernel), z_at_mem (i := 259) (by decide +kernel)⟩
theorem z_in5 : ∀ w ∈ u_ws "MeshParents$Text" z_T5 3, w ∈ z_tb := z_lays_in [73, 75, 77] (by decide +kernel)
theorem z_nm5 : ∀ a, a < 3 → ∀ b, b < 3 → a ≠ b → (z_T5 a).2.1 ≠ (z_T5 b).2.1 := by decide +kernel
theorem z_ok5 : ∀ k, k < 3 → parseFieldDescriptor (z_T5 k).2.2.1 = some (z_y5 k) := by decide +kernel
theorem z_ini5 : Cond.initialized "MeshParents$Text" ∈ z_tb ∧ Cond.instantiable "MeshParents$Text" 3 ∈ z_tb := ⟨z_at_mem (i := 46) (by decide +kernel), z_at_mem (i := 64) (by decide +kernel)⟩
theorem z_in6 : ∀ w ∈ u_ws "MeshParents" z_T6 8, w ∈ z_tb := z_lays_in [287, 289, 291, 293, 295, 297, 299, 301] (by decide +kernel)
theorem z_nm6 : ∀ a, a < 8 → ∀ b, b < 8 → a ≠ b → (z_T6 a).2.1 ≠ (z_T6 b).2.1 := by decide +kernel
theorem z_ok6 : ∀ k, k < 8 → parseFieldDescriptor (z_T6 k).2.2.1 = some (z_y6 k) := by decide +kernel
theorem z_ini6 : Cond.initialized "MeshParents" ∈ z_tb ∧ Cond.instantiable "MeshParents" 8 ∈ z_tb := ⟨z_at_mem (i := 45) (by decide +kernel), z_at_mem (i := 56) (by decide +kernel)⟩
theorem z_in7 : ∀ w ∈ u_ws "MeshParentsModel" z_T7 40, w ∈ z_tb := z_lays_in [751, 753, 755, 757, 759, 761, 763, 765, 767, 769, 771, 773, 775, 777, 779, 781, 783, 785, 787, 789, 791, 793, 795, 797, 799, 801, 803, 805, 807, 809, 811, 813, 815, 817, 819, 821, 823, 825, 827, 829] (by decide +kernel)
theorem z_nm7 : ∀ a, a < 40 → ∀ b, b < 40 → a ≠ b → (z_T7 a).2.1 ≠ (z_T7 b).2.1 := by decide +kernel
theorem z_ok7 : ∀ k, k < 40 → parseFieldDescriptor (z_T7 k).2.2.1 = some (z_y7 k) := by decide +kernel
theorem z_ini7 : Cond.initialized "MeshParentsModel" ∈ z_tb ∧ Cond.instantiable "MeshParentsModel" 40 ∈ z_tb := ⟨z_at_mem (i := 52) (by decide +kernel), z_at_mem (i := 702) (by decide +kernel)⟩
theorem z_clsok : ∀ (ci : Nat) (r : vw_C), z_cls[ci]? = some r → (∀ w ∈ u_ws r.1 r.2.1 r.2.2, w ∈ z_tb) ∧ (∀ a, a < r.2.2 → ∀ b, b < r.2.2 → a ≠ b → (r.2.1 a).2.1 ≠ (r.2.1 b).2.1) ∧ (∃ y, z_tys[ci]? = some y ∧ ∀ k, k < r.2.2 → parseFieldDescriptor (r.2.1 k).2.2.1 = some (y k)) ∧ Cond.initialized r.1 ∈ z_tb ∧ Cond.instantiable r.1 r.2.2 ∈ z_tb := by
  intro ci r h
  match ci, h with
  | 0, h => cases h; exact ⟨z_in0, z_nm0, ⟨_, rfl, z_ok0⟩, z_ini0⟩
  | 1, h => cases h; exact ⟨z_in1, z_nm1, ⟨_, rfl, z_ok1⟩, z_ini1⟩
  | 2, h => cases h; exact ⟨z_in2, z_nm2, ⟨_, rfl, z_ok2⟩, z_ini2⟩
  | 3, h => cases h; exact ⟨z_in3, z_nm3, ⟨_, rfl, z_ok3⟩, z_ini3⟩
  | 4, h => cases h; exact ⟨z_in4, z_nm4, ⟨_, rfl, z_ok4⟩, z_ini4⟩
  | 5, h => cases h; exact ⟨z_in5, z_nm5, ⟨_, rfl, z_ok5⟩, z_ini5⟩
  | 6, h => cases h; exact ⟨z_in6, z_nm6, ⟨_, rfl, z_ok6⟩, z_ini6⟩
  | 7, h => cases h; exact ⟨z_in7, z_nm7, ⟨_, rfl, z_ok7⟩, z_ini7⟩
  | n + 8, h => simp [z_cls] at h
abbrev ZT : Type := MethodName × ByteArray × Nat × Option FieldType × Room
def z_mt0 : List ZT := [(⟨"MeshParents$History", "<init>", "()V"⟩, prog_2_method_1_code, 2, none, ⟨3, 281, 3248, 61⟩),
  (⟨"MeshParents$History", "clear", "()V"⟩, prog_2_method_2_code, 1, none, ⟨0, 0, 0, 0⟩),
  (⟨"MeshParents$History", "push", "(LMeshParents$Mesh;)V"⟩, prog_2_method_3_code, 2, none, ⟨2, 0, 0, 43⟩),
  (⟨"MeshParents$History", "popInto", "(LMeshParents$Mesh;)V"⟩, prog_2_method_4_code, 2, none, ⟨2, 0, 0, 43⟩),
  (⟨"MeshParents$Link", "<init>", "()V"⟩, prog_3_method_1_code, 1, none, ⟨1, 0, 0, 20⟩),
  (⟨"MeshParents$Link", "reset", "(IIIII)V"⟩, prog_3_method_2_code, 6, none, ⟨1, 0, 0, 21⟩),
  (⟨"MeshParents$Link", "copyFrom", "(LMeshParents$Link;)V"⟩, prog_3_method_3_code, 2, none, ⟨0, 0, 0, 0⟩),
  (⟨"MeshParents$Link", "flip", "()V"⟩, prog_3_method_4_code, 1, none, ⟨0, 0, 0, 0⟩),
  (⟨"MeshParents$Link", "setLoss", "(ZI)V"⟩, prog_3_method_5_code, 3, none, ⟨1, 0, 0, 21⟩),
  (⟨"MeshParents$Link", "computeAirtime", "()V"⟩, prog_3_method_6_code, 2, none, ⟨0, 0, 0, 0⟩),
  (⟨"MeshParents$Link", "joins", "(II)Z"⟩, prog_3_method_7_code, 3, some .boolean, ⟨0, 0, 0, 0⟩),
  (⟨"MeshParents$Mesh", "<init>", "()V"⟩, prog_4_method_1_code, 2, none, ⟨2, 19, 224, 40⟩),
  (⟨"MeshParents$Mesh", "reset", "(I)V"⟩, prog_4_method_2_code, 2, none, ⟨0, 0, 0, 0⟩),
  (⟨"MeshParents$Mesh", "copyFrom", "(LMeshParents$Mesh;)V"⟩, prog_4_method_3_code, 3, none, ⟨1, 0, 0, 21⟩),
  (⟨"MeshParents$Mesh", "hasNode", "(I)Z"⟩, prog_4_method_4_code, 2, some .boolean, ⟨0, 0, 0, 0⟩),
  (⟨"MeshParents$Mesh", "hasLink", "(I)Z"⟩, prog_4_method_5_code, 2, some .boolean, ⟨0, 0, 0, 0⟩),
  (⟨"MeshParents$Mesh", "isGateway", "(I)Z"⟩, prog_4_method_6_code, 2, some .boolean, ⟨1, 0, 0, 21⟩),
  (⟨"MeshParents$Mesh", "nodesOfKind", "(I)I"⟩, prog_4_method_7_code, 4, some .int, ⟨0, 0, 0, 0⟩),
  (⟨"MeshParents$Mesh", "downLinks", "()I"⟩, prog_4_method_8_code, 3, some .int, ⟨0, 0, 0, 0⟩),
  (⟨"MeshParents$Mesh", "linksAt", "(I)I"⟩, prog_4_method_9_code, 4, some .int, ⟨0, 0, 0, 0⟩),
  (⟨"MeshParents$Mesh", "linkBetween", "(II)I"⟩, prog_4_method_10_code, 4, some .int, ⟨1, 0, 0, 22⟩),
  (⟨"MeshParents$Mesh", "openOffer", "(II)I"⟩, prog_4_method_11_code, 4, some .int, ⟨2, 0, 0, 45⟩),
  (⟨"MeshParents$Mesh", "passRounds", "(II)V"⟩, prog_4_method_12_code, 4, none, ⟨4, 0, 0, 91⟩),
  (⟨"MeshParents$Mesh", "passRound", "(I)V"⟩, prog_4_method_13_code, 4, none, ⟨3, 0, 0, 68⟩),
  (⟨"MeshParents$Mesh", "exchangeOffers", "(LMeshParents$Link;)V"⟩, prog_4_method_14_code, 4, none, ⟨2, 0, 0, 45⟩),
  (⟨"MeshParents$Mesh", "endOfRoute", "(I)I"⟩, prog_4_method_15_code, 4, some .int, ⟨1, 0, 0, 21⟩),
  (⟨"MeshParents$Mesh", "isReached", "(I)Z"⟩, prog_4_method_16_code, 2, some .boolean, ⟨2, 0, 0, 44⟩),
  (⟨"MeshParents$Mesh", "reachedNodes", "()I"⟩, prog_4_method_17_code, 3, some .int, ⟨3, 0, 0, 65⟩),
  (⟨"MeshParents$Mesh", "load", "(I)I"⟩, prog_4_method_18_code, 4, some .int, ⟨2, 0, 0, 44⟩),
  (⟨"MeshParents$Mesh", "loadSpread", "()I"⟩, prog_4_method_19_code, 5, some .int, ⟨3, 0, 0, 67⟩)]
def z_mt1 : List ZT := [(⟨"MeshParents$Mesh", "allParents", "()J"⟩, prog_4_method_20_code, 4, some .long, ⟨0, 0, 0, 0⟩),
  (⟨"MeshParents$Mesh", "nodeProperty", "(II)I"⟩, prog_4_method_21_code, 5, some .int, ⟨3, 0, 0, 67⟩),
  (⟨"MeshParents$Node", "<init>", "()V"⟩, prog_5_method_1_code, 1, none, ⟨1, 0, 0, 20⟩),
  (⟨"MeshParents$Node", "reset", "(I)V"⟩, prog_5_method_2_code, 2, none, ⟨1, 0, 0, 20⟩),
  (⟨"MeshParents$Node", "copyFrom", "(LMeshParents$Node;)V"⟩, prog_5_method_3_code, 2, none, ⟨0, 0, 0, 0⟩),
  (⟨"MeshParents$Node", "dropParent", "()V"⟩, prog_5_method_4_code, 1, none, ⟨0, 0, 0, 0⟩),
  (⟨"MeshParents$Node", "isAwake", "(I)Z"⟩, prog_5_method_5_code, 2, some .boolean, ⟨0, 0, 0, 0⟩),
  (⟨"MeshParents$Node", "fixOffer", "(IZ)V"⟩, prog_5_method_6_code, 3, none, ⟨0, 0, 0, 0⟩),
  (⟨"MeshParents$Node", "isFeasible", "(LMeshParents$Node;)Z"⟩, prog_5_method_7_code, 2, some .boolean, ⟨0, 0, 0, 0⟩),
  (⟨"MeshParents$Node", "forgetHeard", "()V"⟩, prog_5_method_8_code, 1, none, ⟨0, 0, 0, 0⟩),
  (⟨"MeshParents$Node", "hear", "(LMeshParents$Node;II)V"⟩, prog_5_method_9_code, 5, none, ⟨1, 0, 0, 21⟩),
  (⟨"MeshParents$Node", "choose", "(I)V"⟩, prog_5_method_10_code, 2, none, ⟨1, 0, 0, 20⟩),
  (⟨"MeshParents$Node", "tightenBound", "()V"⟩, prog_5_method_11_code, 1, none, ⟨0, 0, 0, 0⟩),
  (⟨"MeshParents$Node", "asks", "()Z"⟩, prog_5_method_12_code, 1, some .boolean, ⟨0, 0, 0, 0⟩),
  (⟨"MeshParents$Observations", "<init>", "()V"⟩, prog_6_method_1_code, 1, none, ⟨1, 3, 18, 20⟩),
  (⟨"MeshParents$Observations", "add", "(IIZ)V"⟩, prog_6_method_2_code, 4, none, ⟨0, 0, 0, 0⟩),
  (⟨"MeshParents$Observations", "agreeAfter", "(II)Z"⟩, prog_6_method_3_code, 4, some .boolean, ⟨0, 0, 0, 0⟩),
  (⟨"MeshParents$Text", "<init>", "()V"⟩, prog_7_method_1_code, 1, none, ⟨1, 1, 100, 20⟩),
  (⟨"MeshParents$Text", "append", "(I)V"⟩, prog_7_method_2_code, 2, none, ⟨0, 0, 0, 0⟩),
  (⟨"MeshParents$Text", "readInto", "(LMeshParents$Mesh;)I"⟩, prog_7_method_3_code, 4, some .int, ⟨5, 0, 0, 114⟩),
  (⟨"MeshParents$Text", "readPart", "(LMeshParents$Mesh;)Z"⟩, prog_7_method_4_code, 2, some .boolean, ⟨4, 0, 0, 93⟩),
  (⟨"MeshParents$Text", "readGateway", "(LMeshParents$Mesh;)Z"⟩, prog_7_method_5_code, 4, some .boolean, ⟨3, 0, 0, 66⟩),
  (⟨"MeshParents$Text", "readRouter", "(LMeshParents$Mesh;)Z"⟩, prog_7_method_6_code, 2, some .boolean, ⟨2, 0, 0, 41⟩),
  (⟨"MeshParents$Text", "readLeaf", "(LMeshParents$Mesh;)Z"⟩, prog_7_method_7_code, 5, some .boolean, ⟨3, 0, 0, 66⟩),
  (⟨"MeshParents$Text", "readLink", "(LMeshParents$Mesh;)Z"⟩, prog_7_method_8_code, 8, some .boolean, ⟨3, 0, 0, 66⟩),
  (⟨"MeshParents$Text", "letterHere", "()I"⟩, prog_7_method_9_code, 1, some .int, ⟨0, 0, 0, 0⟩),
  (⟨"MeshParents$Text", "digitHere", "(II)I"⟩, prog_7_method_10_code, 4, some .int, ⟨1, 0, 0, 20⟩),
  (⟨"MeshParents$Text", "takeDigit", "(II)I"⟩, prog_7_method_11_code, 4, some .int, ⟨2, 0, 0, 43⟩),
  (⟨"MeshParents", "<init>", "()V"⟩, prog_1_method_1_code, 2, none, ⟨4, 370, 4304, 82⟩),
  (⟨"MeshParents", "write", "(I)I"⟩, prog_1_method_2_code, 2, some .int, ⟨1, 0, 0, 22⟩)]
def z_mt2 : List ZT := [(⟨"MeshParents", "wipe", "()I"⟩, prog_1_method_3_code, 2, some .int, ⟨0, 0, 0, 0⟩),
  (⟨"MeshParents", "fault", "()I"⟩, prog_1_method_4_code, 1, some .int, ⟨6, 0, 0, 137⟩),
  (⟨"MeshParents", "mesh", "()I"⟩, prog_1_method_5_code, 2, some .int, ⟨6, 0, 0, 137⟩),
  (⟨"MeshParents", "about", "(I)I"⟩, prog_1_method_6_code, 2, some .int, ⟨4, 0, 0, 87⟩),
  (⟨"MeshParents", "node", "(II)I"⟩, prog_1_method_7_code, 3, some .int, ⟨4, 0, 0, 91⟩),
  (⟨"MeshParents", "link", "(II)I"⟩, prog_1_method_8_code, 4, some .int, ⟨1, 0, 0, 21⟩),
  (⟨"MeshParents", "price", "(II)I"⟩, prog_1_method_9_code, 5, some .int, ⟨3, 0, 0, 68⟩),
  (⟨"MeshParents", "safe", "(II)I"⟩, prog_1_method_10_code, 4, some .int, ⟨3, 0, 0, 68⟩),
  (⟨"MeshParents", "round", "(I)I"⟩, prog_1_method_11_code, 2, some .int, ⟨5, 0, 0, 114⟩),
  (⟨"MeshParents", "turn", "(I)I"⟩, prog_1_method_12_code, 2, some .int, ⟨3, 0, 0, 64⟩),
  (⟨"MeshParents", "lose", "(IZI)I"⟩, prog_1_method_13_code, 4, some .int, ⟨3, 0, 0, 64⟩),
  (⟨"MeshParents", "offset", "(II)I"⟩, prog_1_method_14_code, 4, some .int, ⟨3, 0, 0, 64⟩),
  (⟨"MeshParents", "margin", "(I)I"⟩, prog_1_method_15_code, 3, some .int, ⟨3, 0, 0, 64⟩),
  (⟨"MeshParents", "undo", "()I"⟩, prog_1_method_16_code, 1, some .int, ⟨3, 0, 0, 64⟩),
  (⟨"MeshParents", "ahead", "(III)I"⟩, prog_1_method_17_code, 4, some .int, ⟨5, 0, 0, 114⟩),
  (⟨"MeshParents", "still", "()I"⟩, prog_1_method_18_code, 5, some .int, ⟨4, 0, 0, 91⟩),
  (⟨"MeshParents", "word", "(I)I"⟩, prog_1_method_19_code, 6, some .int, ⟨4, 0, 0, 91⟩),
  (⟨"MeshParents", "even", "(I)I"⟩, prog_1_method_20_code, 6, some .int, ⟨5, 0, 0, 114⟩),
  (⟨"MeshParents", "judge", "(IJ)I"⟩, prog_1_method_21_code, 6, some .int, ⟨6, 0, 0, 138⟩),
  (⟨"MeshParents", "see", "(III)I"⟩, prog_1_method_22_code, 4, some .int, ⟨1, 0, 0, 23⟩),
  (⟨"MeshParents", "unsee", "()I"⟩, prog_1_method_23_code, 2, some .int, ⟨0, 0, 0, 0⟩),
  (⟨"MeshParents", "which", "()I"⟩, prog_1_method_24_code, 3, some .int, ⟨5, 0, 0, 113⟩),
  (⟨"MeshParents", "share", "(IZ)I"⟩, prog_1_method_25_code, 11, some .int, ⟨6, 0, 0, 138⟩),
  (⟨"MeshParents", "chance", "(IZ)I"⟩, prog_1_method_26_code, 11, some .int, ⟨6, 0, 0, 136⟩),
  (⟨"MeshParents", "seed", "(J)J"⟩, prog_1_method_27_code, 5, some .long, ⟨0, 0, 0, 0⟩),
  (⟨"MeshParents", "drawn", "(I)I"⟩, prog_1_method_28_code, 5, some .int, ⟨4, 0, 0, 91⟩),
  (⟨"MeshParents", "keep", "(I)I"⟩, prog_1_method_29_code, 2, some .int, ⟨2, 0, 0, 43⟩),
  (⟨"MeshParents", "again", "(I)I"⟩, prog_1_method_30_code, 2, some .int, ⟨2, 0, 0, 43⟩),
  (⟨"MeshParents", "isWithin", "(III)Z"⟩, prog_1_method_31_code, 3, some .boolean, ⟨0, 0, 0, 0⟩),
  (⟨"MeshParents", "offerError", "(II)I"⟩, prog_1_method_32_code, 3, some .int, ⟨2, 0, 0, 42⟩)]
def z_mt3 : List ZT := [(⟨"MeshParents", "withoutEvents", "(JI)J"⟩, prog_1_method_33_code, 6, some .long, ⟨0, 0, 0, 0⟩),
  (⟨"MeshParents", "happens", "(I)Z"⟩, prog_1_method_34_code, 5, some .boolean, ⟨5, 0, 0, 114⟩),
  (⟨"MeshParents", "flipInTrial", "(I)Z"⟩, prog_1_method_35_code, 2, some .boolean, ⟨1, 0, 0, 21⟩),
  (⟨"MeshParents", "setOffsetInTrial", "(II)Z"⟩, prog_1_method_36_code, 3, some .boolean, ⟨2, 0, 0, 42⟩),
  (⟨"MeshParents", "explainsAll", "(I)Z"⟩, prog_1_method_37_code, 3, some .boolean, ⟨4, 0, 0, 91⟩),
  (⟨"MeshParents", "worth", "(I)I"⟩, prog_1_method_38_code, 5, some .int, ⟨5, 0, 0, 114⟩),
  (⟨"MeshParents", "reachesAllWithout", "(I)Z"⟩, prog_1_method_39_code, 3, some .boolean, ⟨5, 0, 0, 114⟩),
  (⟨"MeshParents", "power", "(II)J"⟩, prog_1_method_40_code, 5, some .long, ⟨0, 0, 0, 0⟩),
  (⟨"MeshParents", "inLowestTerms", "(JJZ)I"⟩, prog_1_method_41_code, 7, some .int, ⟨1, 0, 0, 30⟩),
  (⟨"MeshParents", "greatestCommonDivisor", "(JJ)J"⟩, prog_1_method_42_code, 11, some .long, ⟨0, 0, 0, 0⟩),
  (⟨"MeshParentsModel", "<init>", "()V"⟩, prog_9_method_1_code, 1, none, ⟨1, 27, 2386, 21⟩),
  (⟨"MeshParentsModel", "fresh", "()V"⟩, prog_9_method_3_code, 2, none, ⟨0, 0, 0, 0⟩),
  (⟨"MeshParentsModel", "copy", "([I[I)V"⟩, prog_9_method_4_code, 3, none, ⟨0, 0, 0, 0⟩),
  (⟨"MeshParentsModel", "in", "(JJJ)Z"⟩, prog_9_method_5_code, 6, some .boolean, ⟨0, 0, 0, 0⟩),
  (⟨"MeshParentsModel", "has", "(II)Z"⟩, prog_9_method_6_code, 2, some .boolean, ⟨0, 0, 0, 0⟩),
  (⟨"MeshParentsModel", "ones", "(I)I"⟩, prog_9_method_7_code, 3, some .int, ⟨0, 0, 0, 0⟩),
  (⟨"MeshParentsModel", "power", "(II)I"⟩, prog_9_method_8_code, 4, some .int, ⟨0, 0, 0, 0⟩),
  (⟨"MeshParentsModel", "factorial", "(I)I"⟩, prog_9_method_9_code, 3, some .int, ⟨0, 0, 0, 0⟩),
  (⟨"MeshParentsModel", "fraction", "(JJZ)I"⟩, prog_9_method_10_code, 11, some .int, ⟨0, 0, 0, 0⟩),
  (⟨"MeshParentsModel", "isNode", "(I)Z"⟩, prog_9_method_11_code, 2, some .boolean, ⟨1, 0, 0, 25⟩),
  (⟨"MeshParentsModel", "isGateway", "(I)Z"⟩, prog_9_method_12_code, 2, some .boolean, ⟨2, 0, 0, 46⟩),
  (⟨"MeshParentsModel", "isLink", "(I)Z"⟩, prog_9_method_13_code, 2, some .boolean, ⟨1, 0, 0, 25⟩),
  (⟨"MeshParentsModel", "write", "(I)I"⟩, prog_9_method_14_code, 2, some .int, ⟨1, 0, 0, 25⟩),
  (⟨"MeshParentsModel", "wipe", "()I"⟩, prog_9_method_15_code, 2, some .int, ⟨0, 0, 0, 0⟩),
  (⟨"MeshParentsModel", "areLinkedAsRead", "(II)Z"⟩, prog_9_method_16_code, 5, some .boolean, ⟨0, 0, 0, 0⟩),
  (⟨"MeshParentsModel", "isFullAsRead", "(I)Z"⟩, prog_9_method_17_code, 4, some .boolean, ⟨1, 0, 0, 24⟩),
  (⟨"MeshParentsModel", "mayLink", "()Z"⟩, prog_9_method_18_code, 3, some .boolean, ⟨2, 0, 0, 47⟩),
  (⟨"MeshParentsModel", "takeSign", "(I)Z"⟩, prog_9_method_19_code, 2, some .boolean, ⟨3, 0, 0, 69⟩),
  (⟨"MeshParentsModel", "takeOfGateway", "(I)Z"⟩, prog_9_method_20_code, 2, some .boolean, ⟨1, 0, 0, 25⟩),
  (⟨"MeshParentsModel", "takeOfLeaf", "(I)Z"⟩, prog_9_method_21_code, 2, some .boolean, ⟨1, 0, 0, 25⟩)]
def z_mt4 : List ZT := [(⟨"MeshParentsModel", "takeOfLink", "(I)Z"⟩, prog_9_method_22_code, 3, some .boolean, ⟨2, 0, 0, 47⟩),
  (⟨"MeshParentsModel", "take", "(I)Z"⟩, prog_9_method_23_code, 3, some .boolean, ⟨4, 0, 0, 90⟩),
  (⟨"MeshParentsModel", "readText", "()I"⟩, prog_9_method_24_code, 2, some .int, ⟨5, 0, 0, 112⟩),
  (⟨"MeshParentsModel", "fault", "()I"⟩, prog_9_method_25_code, 1, some .int, ⟨6, 0, 0, 133⟩),
  (⟨"MeshParentsModel", "mesh", "()I"⟩, prog_9_method_26_code, 2, some .int, ⟨6, 0, 0, 133⟩),
  (⟨"MeshParentsModel", "airtime", "([II)I"⟩, prog_9_method_27_code, 4, some .int, ⟨0, 0, 0, 0⟩),
  (⟨"MeshParentsModel", "linkOf", "([III)I"⟩, prog_9_method_28_code, 7, some .int, ⟨0, 0, 0, 0⟩),
  (⟨"MeshParentsModel", "offers", "([II)Z"⟩, prog_9_method_29_code, 3, some .boolean, ⟨1, 0, 0, 21⟩),
  (⟨"MeshParentsModel", "offered", "([II)I"⟩, prog_9_method_30_code, 3, some .int, ⟨0, 0, 0, 0⟩),
  (⟨"MeshParentsModel", "sequenceOf", "([II)I"⟩, prog_9_method_31_code, 3, some .int, ⟨0, 0, 0, 0⟩),
  (⟨"MeshParentsModel", "priceOf", "([III)I"⟩, prog_9_method_32_code, 5, some .int, ⟨2, 0, 0, 43⟩),
  (⟨"MeshParentsModel", "isSafe", "([III)Z"⟩, prog_9_method_33_code, 5, some .boolean, ⟨1, 0, 0, 22⟩),
  (⟨"MeshParentsModel", "isGood", "([III)Z"⟩, prog_9_method_34_code, 4, some .boolean, ⟨3, 0, 0, 67⟩),
  (⟨"MeshParentsModel", "isAwake", "(II)Z"⟩, prog_9_method_35_code, 3, some .boolean, ⟨0, 0, 0, 0⟩),
  (⟨"MeshParentsModel", "hears", "([II)Z"⟩, prog_9_method_36_code, 7, some .boolean, ⟨4, 0, 0, 90⟩),
  (⟨"MeshParentsModel", "goOn", "([I)V"⟩, prog_9_method_37_code, 4, none, ⟨5, 0, 0, 116⟩),
  (⟨"MeshParentsModel", "tryRounds", "(I)V"⟩, prog_9_method_38_code, 3, none, ⟨6, 0, 0, 139⟩),
  (⟨"MeshParentsModel", "endOf", "([II)I"⟩, prog_9_method_39_code, 5, some .int, ⟨1, 0, 0, 21⟩),
  (⟨"MeshParentsModel", "reached", "([I)I"⟩, prog_9_method_40_code, 4, some .int, ⟨2, 0, 0, 45⟩),
  (⟨"MeshParentsModel", "loadOf", "([II)I"⟩, prog_9_method_41_code, 5, some .int, ⟨2, 0, 0, 45⟩),
  (⟨"MeshParentsModel", "those", "(I)I"⟩, prog_9_method_42_code, 4, some .int, ⟨0, 0, 0, 0⟩),
  (⟨"MeshParentsModel", "downs", "()I"⟩, prog_9_method_43_code, 3, some .int, ⟨0, 0, 0, 0⟩),
  (⟨"MeshParentsModel", "about", "(I)I"⟩, prog_9_method_44_code, 2, some .int, ⟨3, 0, 0, 68⟩),
  (⟨"MeshParentsModel", "tell", "([III)I"⟩, prog_9_method_45_code, 6, some .int, ⟨3, 0, 0, 69⟩),
  (⟨"MeshParentsModel", "node", "(II)I"⟩, prog_9_method_46_code, 3, some .int, ⟨4, 0, 0, 94⟩),
  (⟨"MeshParentsModel", "link", "(II)I"⟩, prog_9_method_47_code, 3, some .int, ⟨2, 0, 0, 46⟩),
  (⟨"MeshParentsModel", "noTwo", "(II)I"⟩, prog_9_method_48_code, 3, some .int, ⟨2, 0, 0, 46⟩),
  (⟨"MeshParentsModel", "price", "(II)I"⟩, prog_9_method_49_code, 4, some .int, ⟨3, 0, 0, 68⟩),
  (⟨"MeshParentsModel", "safe", "(II)I"⟩, prog_9_method_50_code, 4, some .int, ⟨3, 0, 0, 68⟩),
  (⟨"MeshParentsModel", "note", "()V"⟩, prog_9_method_51_code, 2, none, ⟨0, 0, 0, 0⟩)]
def z_mt5 : List ZT := [(⟨"MeshParentsModel", "round", "(I)I"⟩, prog_9_method_52_code, 3, some .int, ⟨6, 0, 0, 139⟩),
  (⟨"MeshParentsModel", "turn", "(I)I"⟩, prog_9_method_53_code, 2, some .int, ⟨2, 0, 0, 46⟩),
  (⟨"MeshParentsModel", "lose", "(IZI)I"⟩, prog_9_method_54_code, 4, some .int, ⟨2, 0, 0, 46⟩),
  (⟨"MeshParentsModel", "offset", "(II)I"⟩, prog_9_method_55_code, 4, some .int, ⟨3, 0, 0, 67⟩),
  (⟨"MeshParentsModel", "margin", "(I)I"⟩, prog_9_method_56_code, 3, some .int, ⟨1, 0, 0, 25⟩),
  (⟨"MeshParentsModel", "undo", "()I"⟩, prog_9_method_57_code, 2, some .int, ⟨0, 0, 0, 0⟩),
  (⟨"MeshParentsModel", "ahead", "(III)I"⟩, prog_9_method_58_code, 4, some .int, ⟨7, 0, 0, 161⟩),
  (⟨"MeshParentsModel", "still", "()I"⟩, prog_9_method_59_code, 5, some .int, ⟨6, 0, 0, 139⟩),
  (⟨"MeshParentsModel", "word", "(I)I"⟩, prog_9_method_60_code, 5, some .int, ⟨6, 0, 0, 139⟩),
  (⟨"MeshParentsModel", "spread", "()I"⟩, prog_9_method_61_code, 5, some .int, ⟨3, 0, 0, 69⟩),
  (⟨"MeshParentsModel", "even", "(I)I"⟩, prog_9_method_62_code, 6, some .int, ⟨7, 0, 0, 161⟩),
  (⟨"MeshParentsModel", "judged", "(IIIII)Z"⟩, prog_9_method_63_code, 7, some .boolean, ⟨7, 0, 0, 161⟩),
  (⟨"MeshParentsModel", "hundredThousands", "(I)J"⟩, prog_9_method_64_code, 4, some .long, ⟨0, 0, 0, 0⟩),
  (⟨"MeshParentsModel", "judge", "(IJ)I"⟩, prog_9_method_65_code, 6, some .int, ⟨8, 0, 0, 187⟩),
  (⟨"MeshParentsModel", "see", "(III)I"⟩, prog_9_method_66_code, 4, some .int, ⟨2, 0, 0, 46⟩),
  (⟨"MeshParentsModel", "unsee", "()I"⟩, prog_9_method_67_code, 2, some .int, ⟨0, 0, 0, 0⟩),
  (⟨"MeshParentsModel", "isSoBy", "(II)Z"⟩, prog_9_method_68_code, 4, some .boolean, ⟨7, 0, 0, 161⟩),
  (⟨"MeshParentsModel", "which", "()I"⟩, prog_9_method_69_code, 5, some .int, ⟨8, 0, 0, 184⟩),
  (⟨"MeshParentsModel", "reachedBy", "(I)I"⟩, prog_9_method_70_code, 3, some .int, ⟨7, 0, 0, 161⟩),
  (⟨"MeshParentsModel", "share", "(IZ)I"⟩, prog_9_method_71_code, 8, some .int, ⟨8, 0, 0, 183⟩),
  (⟨"MeshParentsModel", "chance", "(IZ)I"⟩, prog_9_method_72_code, 9, some .int, ⟨7, 0, 0, 161⟩),
  (⟨"MeshParentsModel", "seed", "(J)J"⟩, prog_9_method_73_code, 5, some .long, ⟨0, 0, 0, 0⟩),
  (⟨"MeshParentsModel", "drawn", "(I)I"⟩, prog_9_method_74_code, 6, some .int, ⟨6, 0, 0, 139⟩),
  (⟨"MeshParentsModel", "keep", "(I)I"⟩, prog_9_method_75_code, 3, some .int, ⟨1, 0, 0, 25⟩),
  (⟨"MeshParentsModel", "again", "(I)I"⟩, prog_9_method_76_code, 3, some .int, ⟨1, 0, 0, 25⟩),
  (⟨"java/lang/Integer", "bitCount", "(I)I"⟩, prog_10_method_49_code, 1, some .int, ⟨0, 0, 0, 0⟩),
  (⟨"java/lang/Math", "abs", "(J)J"⟩, prog_11_method_61_code, 2, some .long, ⟨0, 0, 0, 0⟩),
  (⟨"java/lang/Math", "max", "(II)I"⟩, prog_11_method_65_code, 2, some .int, ⟨0, 0, 0, 0⟩),
  (⟨"java/lang/Math", "min", "(II)I"⟩, prog_11_method_69_code, 2, some .int, ⟨0, 0, 0, 0⟩),
  (⟨"MeshParentsLaw", "law", "([I)Z"⟩, code, 4, ret, ⟨11, 600000, 7302250, 426⟩)]
def z_mt : List ZT := z_mt0 ++ (z_mt1 ++ (z_mt2 ++ (z_mt3 ++ (z_mt4 ++ (z_mt5)))))
def z_me (i : Nat) : ZT := (z_mt[i]?).getD (⟨"", "", ""⟩, ⟨#[]⟩, 0, none, ⟨0, 0, 0, 0⟩)
def z_my (i : Nat) : MethodName := (z_me i).1
def z_mc (i : Nat) : ByteArray := (z_me i).2.1
def z_mL (i : Nat) : Nat := (z_me i).2.2.1
def z_mr (i : Nat) : Option FieldType := (z_me i).2.2.2.1
def z_rm (i : Nat) : Room := (z_me i).2.2.2.2
abbrev m_History_init : Nat := 0
abbrev m_History_clear : Nat := 1
abbrev m_History_push : Nat := 2
abbrev m_History_popInto : Nat := 3
abbrev m_Link_init : Nat := 4
abbrev m_Link_reset : Nat := 5
abbrev m_Link_copyFrom : Nat := 6
abbrev m_Link_flip : Nat := 7
abbrev m_Link_setLoss : Nat := 8
abbrev m_Link_computeAirtime : Nat := 9
abbrev m_Link_joins : Nat := 10
abbrev m_Mesh_init : Nat := 11
abbrev m_Mesh_reset : Nat := 12
abbrev m_Mesh_copyFrom : Nat := 13
abbrev m_Mesh_hasNode : Nat := 14
abbrev m_Mesh_hasLink : Nat := 15
abbrev m_Mesh_isGateway : Nat := 16
abbrev m_Mesh_nodesOfKind : Nat := 17
abbrev m_Mesh_downLinks : Nat := 18
abbrev m_Mesh_linksAt : Nat := 19
abbrev m_Mesh_linkBetween : Nat := 20
abbrev m_Mesh_openOffer : Nat := 21
abbrev m_Mesh_passRounds : Nat := 22
abbrev m_Mesh_passRound : Nat := 23
abbrev m_Mesh_exchangeOffers : Nat := 24
abbrev m_Mesh_endOfRoute : Nat := 25
abbrev m_Mesh_isReached : Nat := 26
abbrev m_Mesh_reachedNodes : Nat := 27
abbrev m_Mesh_load : Nat := 28
abbrev m_Mesh_loadSpread : Nat := 29
abbrev m_Mesh_allParents : Nat := 30
abbrev m_Mesh_nodeProperty : Nat := 31
abbrev m_Node_init : Nat := 32
abbrev m_Node_reset : Nat := 33
abbrev m_Node_copyFrom : Nat := 34
abbrev m_Node_dropParent : Nat := 35
abbrev m_Node_isAwake : Nat := 36
abbrev m_Node_fixOffer : Nat := 37
abbrev m_Node_isFeasible : Nat := 38
abbrev m_Node_forgetHeard : Nat := 39
abbrev m_Node_hear : Nat := 40
abbrev m_Node_choose : Nat := 41
abbrev m_Node_tightenBound : Nat := 42
abbrev m_Node_asks : Nat := 43
abbrev m_Observations_init : Nat := 44
abbrev m_Observations_add : Nat := 45
abbrev m_Observations_agreeAfter : Nat := 46
abbrev m_Text_init : Nat := 47
abbrev m_Text_append : Nat := 48
abbrev m_Text_readInto : Nat := 49
abbrev m_Text_readPart : Nat := 50
abbrev m_Text_readGateway : Nat := 51
abbrev m_Text_readRouter : Nat := 52
abbrev m_Text_readLeaf : Nat := 53
abbrev m_Text_readLink : Nat := 54
abbrev m_Text_letterHere : Nat := 55
abbrev m_Text_digitHere : Nat := 56
abbrev m_Text_takeDigit : Nat := 57
abbrev m_MP_init : Nat := 58
abbrev m_MP_write : Nat := 59
abbrev m_MP_wipe : Nat := 60
abbrev m_MP_fault : Nat := 61
abbrev m_MP_mesh : Nat := 62
abbrev m_MP_about : Nat := 63
abbrev m_MP_node : Nat := 64
abbrev m_MP_link : Nat := 65
abbrev m_MP_price : Nat := 66
abbrev m_MP_safe : Nat := 67
abbrev m_MP_round : Nat := 68
abbrev m_MP_turn : Nat := 69
abbrev m_MP_lose : Nat := 70
abbrev m_MP_offset : Nat := 71
abbrev m_MP_margin : Nat := 72
abbrev m_MP_undo : Nat := 73
abbrev m_MP_ahead : Nat := 74
abbrev m_MP_still : Nat := 75
abbrev m_MP_word : Nat := 76
abbrev m_MP_even : Nat := 77
abbrev m_MP_judge : Nat := 78
abbrev m_MP_see : Nat := 79
abbrev m_MP_unsee : Nat := 80
abbrev m_MP_which : Nat := 81
abbrev m_MP_share : Nat := 82
abbrev m_MP_chance : Nat := 83
abbrev m_MP_seed : Nat := 84
abbrev m_MP_drawn : Nat := 85
abbrev m_MP_keep : Nat := 86
abbrev m_MP_again : Nat := 87
abbrev m_MP_isWithin : Nat := 88
abbrev m_MP_offerError : Nat := 89
abbrev m_MP_withoutEvents : Nat := 90
abbrev m_MP_happens : Nat := 91
abbrev m_MP_flipInTrial : Nat := 92
abbrev m_MP_setOffsetInTrial : Nat := 93
abbrev m_MP_explainsAll : Nat := 94
abbrev m_MP_worth : Nat := 95
abbrev m_MP_reachesAllWithout : Nat := 96
abbrev m_MP_power : Nat := 97
abbrev m_MP_inLowestTerms : Nat := 98
abbrev m_MP_greatestCommonDivisor : Nat := 99
abbrev m_Model_init : Nat := 100
abbrev m_Model_fresh : Nat := 101
abbrev m_Model_copy : Nat := 102
abbrev m_Model_in : Nat := 103
abbrev m_Model_has : Nat := 104
abbrev m_Model_ones : Nat := 105
abbrev m_Model_power : Nat := 106
abbrev m_Model_factorial : Nat := 107
abbrev m_Model_fraction : Nat := 108
abbrev m_Model_isNode : Nat := 109
abbrev m_Model_isGateway : Nat := 110
abbrev m_Model_isLink : Nat := 111
abbrev m_Model_write : Nat := 112
abbrev m_Model_wipe : Nat := 113
abbrev m_Model_areLinkedAsRead : Nat := 114
abbrev m_Model_isFullAsRead : Nat := 115
abbrev m_Model_mayLink : Nat := 116
abbrev m_Model_takeSign : Nat := 117
abbrev m_Model_takeOfGateway : Nat := 118
abbrev m_Model_takeOfLeaf : Nat := 119
abbrev m_Model_takeOfLink : Nat := 120
abbrev m_Model_take : Nat := 121
abbrev m_Model_readText : Nat := 122
abbrev m_Model_fault : Nat := 123
abbrev m_Model_mesh : Nat := 124
abbrev m_Model_airtime : Nat := 125
abbrev m_Model_linkOf : Nat := 126
abbrev m_Model_offers : Nat := 127
abbrev m_Model_offered : Nat := 128
abbrev m_Model_sequenceOf : Nat := 129
abbrev m_Model_priceOf : Nat := 130
abbrev m_Model_isSafe : Nat := 131
abbrev m_Model_isGood : Nat := 132
abbrev m_Model_isAwake : Nat := 133
abbrev m_Model_hears : Nat := 134
abbrev m_Model_goOn : Nat := 135
abbrev m_Model_tryRounds : Nat := 136
abbrev m_Model_endOf : Nat := 137
abbrev m_Model_reached : Nat := 138
abbrev m_Model_loadOf : Nat := 139
abbrev m_Model_those : Nat := 140
abbrev m_Model_downs : Nat := 141
abbrev m_Model_about : Nat := 142
abbrev m_Model_tell : Nat := 143
abbrev m_Model_node : Nat := 144
abbrev m_Model_link : Nat := 145
abbrev m_Model_noTwo : Nat := 146
abbrev m_Model_price : Nat := 147
abbrev m_Model_safe : Nat := 148
abbrev m_Model_note : Nat := 149
abbrev m_Model_round : Nat := 150
abbrev m_Model_turn : Nat := 151
abbrev m_Model_lose : Nat := 152
abbrev m_Model_offset : Nat := 153
abbrev m_Model_margin : Nat := 154
abbrev m_Model_undo : Nat := 155
abbrev m_Model_ahead : Nat := 156
abbrev m_Model_still : Nat := 157
abbrev m_Model_word : Nat := 158
abbrev m_Model_spread : Nat := 159
abbrev m_Model_even : Nat := 160
abbrev m_Model_judged : Nat := 161
abbrev m_Model_hundredThousands : Nat := 162
abbrev m_Model_judge : Nat := 163
abbrev m_Model_see : Nat := 164
abbrev m_Model_unsee : Nat := 165
abbrev m_Model_isSoBy : Nat := 166
abbrev m_Model_which : Nat := 167
abbrev m_Model_reachedBy : Nat := 168
abbrev m_Model_share : Nat := 169
abbrev m_Model_chance : Nat := 170
abbrev m_Model_seed : Nat := 171
abbrev m_Model_drawn : Nat := 172
abbrev m_Model_keep : Nat := 173
abbrev m_Model_again : Nat := 174
abbrev m_Integer_bitCount : Nat := 175
abbrev m_Math_abs : Nat := 176
abbrev m_Math_max : Nat := 177
abbrev m_Math_min : Nat := 178
abbrev m_Law_law : Nat := 179
def z_mp : List (Nat × Nat × Nat × Nat) := [(241, 0, 50, 1), (408, 409, 50, 2), (494, 495, 50, 2), (570, 571, 50, 2), (169, 0, 49, 1), (384, 385, 49, 2), (404, 405, 49, 2), (546, 547, 49, 2), (554, 555, 49, 2), (388, 389, 49, 2), (380, 381, 49, 2), (84, 0, 47, 1), (328, 329, 47, 2), (396, 397, 47, 2), (432, 433, 47, 2), (457, 458, 47, 2), (469, 470, 47, 2), (416, 417, 47, 2), (436, 437, 47, 2), (372, 373, 47, 2), (376, 377, 47, 2), (473, 474, 47, 2), (499, 500, 47, 2), (503, 504, 47, 2), (511, 512, 47, 2), (428, 429, 47, 2), (424, 425, 47, 2), (420, 421, 47, 2), (449, 450, 47, 2), (597, 598, 47, 2), (582, 583, 47, 2), (445, 446, 47, 2), (91, 0, 48, 1), (352, 353, 48, 2), (400, 401, 48, 2), (356, 357, 48, 2), (520, 521, 48, 2), (477, 478, 48, 2), (486, 487, 48, 2), (507, 508, 48, 2), (515, 516, 48, 2), (524, 525, 48, 2), (528, 529, 48, 2), (532, 533, 48, 2), (261, 0, 51, 1), (633, 634, 51, 2), (649, 650, 51, 2), (66, 0, 46, 1), (312, 313, 46, 2), (324, 325, 46, 2), (344, 345, 46, 2), (348, 349, 46, 2), (360, 361, 46, 2), (364, 365, 46, 2), (368, 369, 46, 2), (332, 333, 46, 2), (340, 341, 46, 2), (336, 337, 46, 2), (58, 0, 45, 1), (305, 306, 45, 2), (316, 317, 45, 2), (320, 321, 45, 2), (392, 393, 45, 2), (412, 413, 45, 2), (440, 441, 45, 2), (453, 454, 45, 2), (461, 462, 45, 2), (482, 483, 45, 2), (490, 491, 45, 2), (542, 543, 45, 2), (550, 551, 45, 2), (558, 559, 45, 2), (562, 563, 45, 2), (566, 567, 45, 2), (574, 575, 45, 2), (578, 579, 45, 2), (588, 589, 45, 2), (593, 594, 45, 2), (607, 608, 45, 2), (629, 630, 45, 2), (637, 638, 45, 2), (641, 642, 45, 2), (653, 654, 45, 2), (673, 674, 45, 2), (684, 685, 45, 2), (688, 689, 45, 2), (694, 695, 45, 2), (698, 699, 45, 2), (309, 0, 45, 0), (466, 0, 45, 2), (611, 0, 45, 0), (616, 1, 45, 2), (620, 2, 45, 2), (624, 3, 45, 2), (646, 4, 45, 2), (660, 5, 45, 2), (681, 6, 45, 2), (677, 0, 45, 0), (664, 0, 45, 0), (670, 0, 45, 0), (704, 0, 52, 1), (709, 7, 52, 2), (990, 0, 52, 0), (838, 0, 52, 0), (906, 0, 52, 0), (1005, 0, 52, 0), (1105, 0, 52, 0), (1094, 0, 52, 0), (1097, 0, 52, 0), (918, 21, 52, 2), (1021, 38, 52, 2), (934, 24, 52, 2), (833, 834, 52, 2), (841, 842, 52, 2), (870, 13, 52, 2), (866, 12, 52, 2), (862, 11, 52, 2), (858, 10, 52, 2), (875, 14, 52, 2), (879, 15, 52, 2), (883, 16, 52, 2), (854, 9, 52, 2), (850, 8, 52, 2), (845, 846, 52, 2), (886, 887, 52, 2), (938, 25, 52, 2), (954, 28, 52, 2), (958, 29, 52, 2), (962, 30, 52, 2), (974, 32, 52, 2), (950, 27, 52, 2), (970, 31, 52, 2), (1002, 37, 52, 2), (994, 35, 52, 2), (998, 36, 52, 2), (987, 34, 52, 2), (1038, 39, 52, 2), (903, 19, 52, 2), (899, 18, 52, 2), (926, 23, 52, 2), (895, 17, 52, 2), (910, 20, 52, 2), (890, 891, 52, 2), (922, 22, 52, 2), (913, 914, 52, 2), (929, 930, 52, 2), (946, 26, 52, 2), (941, 942, 52, 2), (965, 966, 52, 2), (983, 33, 52, 2), (977, 978, 52, 2), (1008, 1009, 52, 2), (1012, 1013, 52, 2), (1016, 1017, 52, 2), (1024, 1025, 52, 2), (1028, 1029, 52, 2), (1032, 1033, 52, 2), (1041, 1042, 52, 2), (1045, 1046, 52, 2), (1054, 40, 52, 2), (1049, 1050, 52, 2), (1066, 41, 52, 2), (1061, 0, 52, 0), (1057, 1058, 52, 2), (1069, 1070, 52, 2), (1074, 1075, 52, 2), (1083, 42, 52, 2), (1078, 1079, 52, 2), (1091, 43, 52, 2), (1086, 1087, 52, 2), (1100, 1101, 52, 2), (1108, 1109, 52, 2), (1112, 1113, 52, 2), (1118, 1119, 52, 2), (1122, 1123, 52, 2), (536, 0, 53, 0), (667, 0, 54, 0), (601, 0, 54, 0), (604, 0, 54, 0)]
def z_cp : List Nat := [242, 410, 496, 572, 170, 386, 406, 548, 556, 390, 382, 85, 330, 398, 434, 459, 471, 418, 438, 374, 378, 475, 501, 505, 513, 430, 426, 422, 451, 599, 584, 447, 92, 354, 402, 358, 522, 479, 488, 509, 517, 526, 530, 534, 262, 635, 651, 67, 314, 326, 346, 350, 362, 366, 370, 334, 342, 338, 59, 307, 318, 322, 394, 414, 442, 455, 463, 484, 492, 544, 552, 560, 564, 568, 576, 580, 590, 595, 609, 631, 639, 643, 655, 675, 686, 690, 696, 700, 310, 467, 612, 617, 621, 625, 647, 661, 682, 678, 665, 671, 705, 710, 991, 839, 907, 1006, 1106, 1095, 1098, 919, 1022, 935, 835, 843, 871, 867, 863, 859, 876, 880, 884, 855, 851, 847, 888, 939, 955, 959, 963, 975, 951, 971, 1003, 995, 999, 988, 1039, 904, 900, 927, 896, 911, 892, 923, 915, 931, 947, 943, 967, 984, 979, 1010, 1014, 1018, 1026, 1030, 1034, 1043, 1047, 1055, 1051, 1067, 1062, 1059, 1071, 1076, 1084, 1080, 1092, 1088, 1102, 1110, 1114, 1120, 1124, 537, 668, 602, 605]
def z_mk (y : MethodName) (q : Nat × Nat × Nat × Nat) : Bool := z_at q.2.2.1 (.initialized y.cls) && (decide (y.cls ≠ "java/lang/invoke/MethodHandle" ∧ y.cls ≠ "java/lang/invoke/VarHandle") && match q.2.2.2 with
  | 0 => z_at q.1 (.static y)
  | 1 => z_at q.1 (.instanceMethod y) && decide (y.name = "<init>")
  | _ => z_at q.1 (.instanceMethod y) && z_at q.2.1 (.selects y.cls y y))
theorem z_mk_all : (List.range 179).all (fun i => z_mk (z_my i) ((z_mp[i]?).getD (0, 0, 0, 3))) = true := by decide +kernel
def z_cw (i : Nat) : Cond := .code (z_my i) (z_mc i) (z_mL i) (z_mr i)
set_option maxRecDepth 1000000 in
theorem z_cw_all : (List.range 179).map z_cw = z_cp.filterMap (fun i => lw_tbl[i]?) := by rfl
theorem z_cw_mem {i : Nat} (h : i < 179) : z_cw i ∈ z_tb := by
  have h1 : z_cw i ∈ (List.range 179).map z_cw := List.mem_map.mpr ⟨i, List.mem_range.mpr h, rfl⟩
  rw [z_cw_all] at h1
  obtain ⟨k, -, hk⟩ := List.mem_filterMap.mp h1
  exact List.mem_filter.mpr ⟨List.mem_of_getElem? hk, rfl⟩
def z_nest : List (String × Nat × MethodName × String) := [("MeshParents", 9, ⟨"MeshParents$Text", "<init>", "()V"⟩, "MeshParents"), ("MeshParents$Mesh", 17, ⟨"MeshParents$Node", "<init>", "()V"⟩, "MeshParents"), ("MeshParents$Mesh", 24, ⟨"MeshParents$Link", "<init>", "()V"⟩, "MeshParents"), ("MeshParents", 43, ⟨"MeshParents$Observations", "<init>", "()V"⟩, "MeshParents")]
theorem z_nest_in : ∀ q ∈ z_nest, Cond.methodLinkNest q.1 q.2.1 q.2.2.1 q.2.2.2 ∈ lw_tbl := by decide +kernel
theorem z_over_in : (Cond.arrayOver (.object "MeshParents$Node") ∈ lw_tbl ∧ Cond.arrayOver (.object "MeshParents$Link") ∈ lw_tbl ∧ Cond.arrayOver (.object "MeshParents$Mesh") ∈ lw_tbl) ∧ Cond.arrayClass .int ∈ z_tb ∧ Cond.arrayClass .boolean ∈ z_tb := ⟨by decide +kernel, z_at_mem (i := 80) (by decide +kernel), z_at_mem (i := 278) (by decide +kernel)⟩
theorem z_obj_in : Cond.instanceMethod objectInit ∈ z_tb ∧ Cond.code objectInit ⟨#[0xb1]⟩ 1 none ∈ z_tb := ⟨z_at_mem (i := 61) (by decide +kernel), List.mem_filter.mpr ⟨List.mem_of_getElem? (i := 62) rfl, rfl⟩⟩
theorem z_stat_in : Cond.laysStatic "MeshParents" "FACTORIAL" "[I" ∈ lw_tbl := List.mem_of_getElem? (i := 657) (by decide +kernel)
end
section
/-! THE FRAME: an evaluator of bytecode over a memory of numbers; that the machine does what it says -/
abbrev ZM : Type := (Nat → Nat → Int32) × (Nat → Nat → Option Nat) × (Nat → Nat → Int64) × ((Nat → Nat × Nat) × Nat × Nat)
abbrev ZL : Type := List (Option Value)
abbrev ZK : Type := ZL → List Value → ZM → Prop
abbrev ZO : Type := Instr × Nat × Nat × Nat
abbrev ZR : Type := Option Value → ZM → Prop
/-- the surroundings: (where the own cells begin, the class's static array, the script), the script's length and values, class numbers, array classes, the heap at the start -/
abbrev ZG : Type := (Nat × Nat × Nat) × (Nat × (Nat → Int32)) × va_G × (Nat → ClassId) × Heap
def z_ad (G : ZG) : Nat → Nat
  | 0 => G.1.2.1
  | 1 => G.1.2.2
  | n + 2 => G.1.1 + n
def z_em (G : ZG) : Value → Value
  | .ref k => .ref (z_ad G k)
  | v => v
def z_kd : FieldType → Nat
  | .boolean => 3
  | .long => 1
  | .array _ => 2
  | .object _ => 2
  | .int => 0
  | _ => 4
def z_fk (ci k : Nat) : Nat := match z_tys[ci]? with
  | some y => z_kd (y k)
  | none => 0
def z_fv : Nat → ZM → Nat → Nat → Value
  | 1, M, a, k => .long (M.2.2.1 a k)
  | 2, M, a, k => va_rf (M.2.1 a k)
  | _, M, a, k => .int (M.1 a k)
def z_ng (n : Nat) : Int32 := -(nI n)
def z_kI : Nat → Nat → Int32
  | 0, a => nI a
  | _ + 1, a => z_ng a
def z_rem (x y : Int32) : Int32 := x - x / y * y
def z_lrem (x y : Int64) : Int64 := x - x / y * y
def z_shl (x y : Int32) : Int32 := x <<< (y &&& 31)
def z_shr (x y : Int32) : Int32 := x >>> (y &&& 31)
def z_ushr (x y : Int32) : Int32 := (x.toUInt32 >>> (y.toUInt32 &&& Int32.toUInt32 31)).toInt32
def z_lshl (x : Int64) (y : Int32) : Int64 := x <<< (y.toInt64 &&& 63)
def z_lushr (x : Int64) (y : Int32) : Int64 := (x.toUInt64 >>> (y.toInt64.toUInt64 &&& Int64.toUInt64 63)).toInt64
def z_fct : Nat → Int32
  | 0 => 1
  | 1 => 1
  | 2 => 2
  | 3 => 6
  | 4 => 24
  | 5 => 120
  | 6 => 720
  | 7 => 5040
  | _ => 40320
def z_u2 (f : Nat → Nat → Int32) (a k : Nat) (x : Int32) : Nat → Nat → Int32 := fun b j => if b = a ∧ j = k then x else f b j
def z_uR (f : Nat → Nat → Option Nat) (a k : Nat) (x : Option Nat) : Nat → Nat → Option Nat := fun b j => if b = a ∧ j = k then x else f b j
def z_uL (f : Nat → Nat → Int64) (a k : Nat) (x : Int64) : Nat → Nat → Int64 := fun b j => if b = a ∧ j = k then x else f b j
def z_ix (i : Int32) : Nat := i.toNatClampNeg
/-! locals -/
def z_lg : Nat → ZL → Option Value
  | _, [] => none
  | 0, a :: _ => a
  | n + 1, _ :: t => z_lg n t
def z_kl : Option Value → Option Value
  | some (.long _) => none
  | some (.double _) => none
  | x => x
def z_s1 : Nat → Value → ZL → ZL
  | _, _, [] => []
  | 0, v, _ :: t => some v :: t
  | 1, v, a :: t => z_kl a :: z_s1 0 v t
  | n + 2, v, a :: t => a :: z_s1 (n + 1) v t
def z_s2 : Nat → Value → ZL → ZL
  | 0, v, _ :: _ :: t => some v :: none :: t
  | 1, v, a :: t => z_kl a :: z_s2 0 v t
  | n + 2, v, a :: t => a :: z_s2 (n + 1) v t
  | _, _, _ => []
def z_mk1 : List Bool → ZL → ZL
  | true :: b, x :: t => x :: z_mk1 b t
  | false :: b, _ :: t => none :: z_mk1 b t
  | _, _ => []
/-! the instructions -/
def o_kI (x : Int32) (K : ZK) (L : ZL) (st : List Value) (M : ZM) : Prop := K L (.int x :: st) M
def o_kL (x : Int64) (K : ZK) (L : ZL) (st : List Value) (M : ZM) : Prop := K L (.long x :: st) M
def o_ldi : Option Value → ZK → ZL → List Value → ZM → Prop
  | some (.int x), K, L, st, M => K L (.int x :: st) M
  | _, _, _, _, _ => False
def o_ldl : Option Value → ZK → ZL → List Value → ZM → Prop
  | some (.long x), K, L, st, M => K L (.long x :: st) M
  | _, _, _, _, _ => False
def o_lda : Option Value → ZK → ZL → List Value → ZM → Prop
  | some (.ref x), K, L, st, M => K L (.ref x :: st) M
  | _, _, _, _, _ => False
def o_sti : Nat → ZK → ZL → List Value → ZM → Prop
  | n, K, L, .int x :: st, M => K (z_s1 n (.int x) L) st M
  | _, _, _, _, _ => False
def o_sta : Nat → ZK → ZL → List Value → ZM → Prop
  | n, K, L, .ref x :: st, M => K (z_s1 n (.ref x) L) st M
  | _, _, _, _, _ => False
def o_stl : Nat → ZK → ZL → List Value → ZM → Prop
  | n, K, L, .long x :: st, M => K (z_s2 n (.long x) L) st M
  | _, _, _, _, _ => False
def o_inc : Nat → Int32 → Option Value → ZK → ZL → List Value → ZM → Prop
  | n, d, some (.int x), K, L, st, M => K (z_s1 n (.int (x + d)) L) st M
  | _, _, _, _, _, _, _ => False
def o_b2 (f : Int32 → Int32 → Int32) : ZK → ZL → List Value → ZM → Prop
  | K, L, .int y :: .int x :: st, M => K L (.int (f x y) :: st) M
  | _, _, _, _ => False
def o_bz (f : Int32 → Int32 → Int32) : ZK → ZL → List Value → ZM → Prop
  | K, L, .int y :: .int x :: st, M => ¬ y = 0 ∧ K L (.int (f x y) :: st) M
  | _, _, _, _ => False
def o_l2 (f : Int64 → Int64 → Int64) : ZK → ZL → List Value → ZM → Prop
  | K, L, .long y :: .long x :: st, M => K L (.long (f x y) :: st) M
  | _, _, _, _ => False
def o_lz (f : Int64 → Int64 → Int64) : ZK → ZL → List Value → ZM → Prop
  | K, L, .long y :: .long x :: st, M => ¬ y = 0 ∧ K L (.long (f x y) :: st) M
  | _, _, _, _ => False
def o_ls (f : Int64 → Int32 → Int64) : ZK → ZL → List Value → ZM → Prop
  | K, L, .int y :: .long x :: st, M => K L (.long (f x y) :: st) M
  | _, _, _, _ => False
def o_lneg : ZK → ZL → List Value → ZM → Prop
  | K, L, .long x :: st, M => K L (.long (-x) :: st) M
  | _, _, _, _ => False
def o_i2l : ZK → ZL → List Value → ZM → Prop
  | K, L, .int x :: st, M => K L (.long x.toInt64 :: st) M
  | _, _, _, _ => False
def o_l2i : ZK → ZL → List Value → ZM → Prop
  | K, L, .long x :: st, M => K L (.int x.toInt32 :: st) M
  | _, _, _, _ => False
def o_lcmp : ZK → ZL → List Value → ZM → Prop
  | K, L, .long y :: .long x :: st, M => K L (.int (lg_cmp x y) :: st) M
  | _, _, _, _ => False
def z_c1 : Value → Prop
  | .int _ => True
  | .ref _ => True
  | _ => False
def o_dup : ZK → ZL → List Value → ZM → Prop
  | K, L, v :: st, M => z_c1 v ∧ K L (v :: v :: st) M
  | _, _, _, _ => False
def o_dupx1 : ZK → ZL → List Value → ZM → Prop
  | K, L, v :: w :: st, M => (z_c1 v ∧ z_c1 w) ∧ K L (v :: w :: v :: st) M
  | _, _, _, _ => False
def o_dup2 : ZK → ZL → List Value → ZM → Prop
  | K, L, v :: w :: st, M => (z_c1 v ∧ z_c1 w) ∧ K L (v :: w :: v :: w :: st) M
  | _, _, _, _ => False
def o_if (c : Int32 → Prop) (J K : ZK) : ZL → List Value → ZM → Prop
  | L, .int x :: st, M => (c x → J L st M) ∧ (¬ c x → K L st M)
  | _, _, _ => False
def o_if2 (c : Int32 → Int32 → Prop) (J K : ZK) : ZL → List Value → ZM → Prop
  | L, .int y :: .int x :: st, M => (c x y → J L st M) ∧ (¬ c x y → K L st M)
  | _, _, _ => False
def z_ic : Jvm.ClassFile.Cond → Int32 → Int32 → Prop
  | .eq, x, y => x = y
  | .ne, x, y => ¬ x = y
  | .lt, x, y => x < y
  | .ge, x, y => y ≤ x
  | .gt, x, y => y < x
  | .le, x, y => x ≤ y
def o_ifnull (J K : ZK) : ZL → List Value → ZM → Prop
  | L, .null :: st, M => J L st M
  | L, .ref _ :: st, M => K L st M
  | _, _, _ => False
def o_get (ci k ty : Nat) : ZK → ZL → List Value → ZM → Prop
  | K, L, .ref o :: st, M => M.2.2.2.1 o = (1, ci) ∧ K L (z_fv ty M o k :: st) M
  | _, _, _, _ => False
def o_put (ci k : Nat) : Nat → ZK → ZL → List Value → ZM → Prop
  | 0, K, L, .int x :: .ref o :: st, M => M.2.2.2.1 o = (1, ci) ∧ K L st (z_u2 M.1 o k x, M.2)
  | 3, K, L, .int x :: .ref o :: st, M => (M.2.2.2.1 o = (1, ci) ∧ (x = 0 ∨ x = 1)) ∧ K L st (z_u2 M.1 o k x, M.2)
  | 1, K, L, .long x :: .ref o :: st, M => M.2.2.2.1 o = (1, ci) ∧ K L st (M.1, M.2.1, z_uL M.2.2.1 o k x, M.2.2.2)
  | 2, K, L, .ref x :: .ref o :: st, M => M.2.2.2.1 o = (1, ci) ∧ K L st (M.1, z_uR M.2.1 o k (some x), M.2.2)
  | 2, K, L, .null :: .ref o :: st, M => M.2.2.2.1 o = (1, ci) ∧ K L st (M.1, z_uR M.2.1 o k none, M.2.2)
  | _, _, _, _, _ => False
def o_iald (G : ZG) : Nat → ZK → ZL → List Value → ZM → Prop
  | 0, K, L, .int i :: .ref o :: st, M => ((M.2.2.2.1 o).1 = 2 ∧ vp_in i (M.2.2.2.1 o).2) ∧ K L (.int (M.1 o (z_ix i)) :: st) M
  | 1, K, L, .int i :: .ref 0 :: st, M => vp_in i 9 ∧ K L (.int (z_fct (z_ix i)) :: st) M
  | 2, K, L, .int i :: .ref 1 :: st, M => vp_in i G.2.1.1 ∧ K L (.int (G.2.1.2 (z_ix i)) :: st) M
  | _, _, _, _, _ => False
def o_zald : ZK → ZL → List Value → ZM → Prop
  | K, L, .int i :: .ref o :: st, M => ((M.2.2.2.1 o).1 = 3 ∧ vp_in i (M.2.2.2.1 o).2) ∧ K L (.int (M.1 o (z_ix i)) :: st) M
  | _, _, _, _ => False
def o_aald : ZK → ZL → List Value → ZM → Prop
  | K, L, .int i :: .ref o :: st, M => ((4 ≤ (M.2.2.2.1 o).1 ∧ (M.2.2.2.1 o).1 ≤ 6) ∧ vp_in i (M.2.2.2.1 o).2) ∧ K L (va_rf (M.2.1 o (z_ix i)) :: st) M
  | _, _, _, _ => False
def o_alen (G : ZG) : ZK → ZL → List Value → ZM → Prop
  | K, L, .ref 1 :: st, M => K L (.int (nI G.2.1.1) :: st) M
  | _, _, _, _ => False
def o_iast : ZK → ZL → List Value → ZM → Prop
  | K, L, .int x :: .int i :: .ref o :: st, M => ((M.2.2.2.1 o).1 = 2 ∧ vp_in i (M.2.2.2.1 o).2) ∧ K L st (z_u2 M.1 o (z_ix i) x, M.2)
  | _, _, _, _ => False
def o_zast : ZK → ZL → List Value → ZM → Prop
  | K, L, .int x :: .int i :: .ref o :: st, M => (((M.2.2.2.1 o).1 = 3 ∧ vp_in i (M.2.2.2.1 o).2) ∧ (x = 0 ∨ x = 1)) ∧ K L st (z_u2 M.1 o (z_ix i) x, M.2)
  | _, _, _, _ => False
/-- an array of references: what its objects' class is -/
def z_ac : Nat → Nat
  | 4 => 3
  | 5 => 1
  | _ => 2
def o_aast : ZK → ZL → List Value → ZM → Prop
  | K, L, .ref v :: .int i :: .ref o :: st, M => (((4 ≤ (M.2.2.2.1 o).1 ∧ (M.2.2.2.1 o).1 ≤ 6) ∧ vp_in i (M.2.2.2.1 o).2) ∧ M.2.2.2.1 v = (1, z_ac (M.2.2.2.1 o).1)) ∧ K L st (M.1, z_uR M.2.1 o (z_ix i) (some v), M.2.2)
  | _, _, _, _ => False
/-- a new cell: its places hold nothing yet -/
def z_nw (M : ZM) (t : Nat × Nat) (n : Nat) : ZM := (fun b j => if b = M.2.2.2.2.1 then 0 else M.1 b j, fun b j => if b = M.2.2.2.2.1 then none else M.2.1 b j, fun b j => if b = M.2.2.2.2.1 then 0 else M.2.2.1 b j, fun b => if b = M.2.2.2.2.1 then t else M.2.2.2.1 b, M.2.2.2.2.1 + 1, M.2.2.2.2.2 + n)
def z_rmk (R : Room) (z0 : Nat × Nat) (M : ZM) (c n : Nat) : Prop := M.2.2.2.2.1 + c ≤ z0.1 + R.cells ∧ M.2.2.2.2.2 + n ≤ z0.2 + R.slots
def o_new (R : Room) (z0 : Nat × Nat) (ci n : Nat) (K : ZK) (L : ZL) (st : List Value) (M : ZM) : Prop := z_rmk R z0 M 1 n ∧ K L (.ref M.2.2.2.2.1 :: st) (z_nw M (1, ci) n)
def o_newa (R : Room) (z0 : Nat × Nat) (k : Nat) : ZK → ZL → List Value → ZM → Prop
  | K, L, .int n :: st, M => (z_rmk R z0 M 1 (z_ix n) ∧ (¬ n < 0 ∧ z_ix n ≤ 65536)) ∧ K L (.ref M.2.2.2.2.1 :: st) (z_nw M (k, z_ix n) (z_ix n))
  | _, _, _, _ => False
/-- what goes on behind a call -/
def z_af (K : ZK) (L : ZL) (st : List Value) : ZR := fun r M => K L (r.toList ++ st) M
def z_sh : List Value → Prop
  | [] => True
  | [_] => True
  | [_, _] => True
  | [_, _, _] => True
  | [_, _, _, _] => True
  | _ => False
def z_pop : Nat → (List Value → List Value → Prop) → List Value → List Value → Prop
  | 0, k, acc, st => k acc st
  | n + 1, k, acc, v :: st => z_pop n k (v :: acc) st
  | _, _, _, _ => False
def z_rc : Nat → List Value → ZM → Prop
  | 0, _, _ => True
  | c + 1, .ref o :: _, M => M.2.2.2.1 o = (1, c)
  | _, _, _ => False
def o_call1 (C : Nat → List Value → ZM → ZR → Prop) (mid c : Nat) (K : ZK) (L : ZL) (M : ZM) (as st : List Value) : Prop := (z_rc c as M ∧ z_sh st) ∧ C mid as M (z_af K L st)
def o_call (C : Nat → List Value → ZM → ZR → Prop) (mid n c : Nat) (K : ZK) (L : ZL) (st : List Value) (M : ZM) : Prop := z_pop n (o_call1 C mid c K L M) [] st
/-- a call that makes cells -/
def o_callN (C : Nat → List Value → ZM → ZR → Prop) (R : Room) (z0 : Nat × Nat) (mid n c : Nat) (K : ZK) (L : ZL) (st : List Value) (M : ZM) : Prop := z_rmk R z0 M (z_rm mid).cells (z_rm mid).slots ∧ z_pop n (o_call1 C mid c K L M) [] st
def o_obj : ZK → ZL → List Value → ZM → Prop
  | K, L, .ref _ :: st, M => z_sh st ∧ K L st M
  | _, _, _, _ => False
def o_reti (Rt : ZR) : Nat → ZL → List Value → ZM → Prop
  | 0, _, [.int x], M => Rt (some (.int x)) M
  | 1, _, [.int x], M => (x = 0 ∨ x = 1) ∧ Rt (some (.int x)) M
  | _, _, _, _ => False
def o_retl (Rt : ZR) : ZL → List Value → ZM → Prop
  | _, [.long x], M => Rt (some (.long x)) M
  | _, _, _ => False
def o_ret (Rt : ZR) : ZL → List Value → ZM → Prop
  | _, [], M => Rt none M
  | _, _, _ => False
def z_tgt (pc : Nat) (off : Int) : Nat := ((pc : Int) + off).toNat
def z_tsw (J : Nat → ZK) (pc : Nat) (x : Int32) : Int → List Int → ZL → List Value → ZM → Prop
  | _, [], _, _, _ => True
  | k, t :: r, L, st, M => (x = Int32.ofInt k → J (z_tgt pc t) L st M) ∧ z_tsw J pc x (k + 1) r L st M
def o_tsw (J : Nat → ZK) (pc : Nat) (d lo hi : Int) (offs : List Int) : ZL → List Value → ZM → Prop
  | L, .int x :: st, M => (x < Int32.ofInt lo → J (z_tgt pc d) L st M) ∧ (Int32.ofInt hi < x → J (z_tgt pc d) L st M) ∧ z_tsw J pc x lo offs L st M
  | _, _, _ => False
def z_lsw (J : Nat → ZK) (pc : Nat) (x : Int32) (d : Int) : List (Int × Int) → ZL → List Value → ZM → Prop
  | [], L, st, M => J (z_tgt pc d) L st M
  | (k, t) :: r, L, st, M => (x = Int32.ofInt k → J (z_tgt pc t) L st M) ∧ (¬ x = Int32.ofInt k → z_lsw J pc x d r L st M)
def o_lsw (J : Nat → ZK) (pc : Nat) (d : Int) (ps : List (Int × Int)) : ZL → List Value → ZM → Prop
  | L, .int x :: st, M => z_lsw J pc x d ps L st M
  | _, _, _ => False
def z_hd (G : ZG) (mid : Nat) (z0 : Nat × Nat) (C : Nat → List Value → ZM → ZR → Prop) (Rt : ZR) (J : Nat → ZK) : Instr → Nat → Nat → Nat → ZK → ZL → List Value → ZM → Prop
  | .iconst _, a, _, c, K, L, st, M => o_kI (z_kI c a) K L st M
  | .bipush _, a, _, c, K, L, st, M => o_kI (z_kI c a) K L st M
  | .sipush _, a, _, c, K, L, st, M => o_kI (z_kI c a) K L st M
  | .ldc_w _, a, _, c, K, L, st, M => o_kI (z_kI c a) K L st M
  | .lconst _, a, _, _, K, L, st, M => o_kL (lN a) K L st M
  | .ldc2_w _, a, _, _, K, L, st, M => o_kL (lN a) K L st M
  | .iload n, _, _, _, K, L, st, M => o_ldi (z_lg n L) K L st M
  | .iload_n n, _, _, _, K, L, st, M => o_ldi (z_lg n.val L) K L st M
  | .aload n, _, _, _, K, L, st, M => o_lda (z_lg n L) K L st M
  | .aload_n n, _, _, _, K, L, st, M => o_lda (z_lg n.val L) K L st M
  | .lload n, _, _, _, K, L, st, M => o_ldl (z_lg n L) K L st M
  | .lload_n n, _, _, _, K, L, st, M => o_ldl (z_lg n.val L) K L st M
  | .istore n, _, _, _, K, L, st, M => o_sti n K L st M
  | .istore_n n, _, _, _, K, L, st, M => o_sti n.val K L st M
  | .astore n, _, _, _, K, L, st, M => o_sta n K L st M
  | .astore_n n, _, _, _, K, L, st, M => o_sta n.val K L st M
  | .lstore n, _, _, _, K, L, st, M => o_stl n K L st M
  | .lstore_n n, _, _, _, K, L, st, M => o_stl n.val K L st M
  | .iinc n d, _, _, _, K, L, st, M => o_inc n (Int32.ofInt d) (z_lg n L) K L st M
  | .iadd, _, _, _, K, L, st, M => o_b2 (fun x y => x + y) K L st M
  | .isub, _, _, _, K, L, st, M => o_b2 (fun x y => x - y) K L st M
  | .imul, _, _, _, K, L, st, M => o_b2 (fun x y => x * y) K L st M
  | .iand, _, _, _, K, L, st, M => o_b2 (fun x y => x &&& y) K L st M
  | .ior, _, _, _, K, L, st, M => o_b2 (fun x y => x ||| y) K L st M
  | .ixor, _, _, _, K, L, st, M => o_b2 (fun x y => x ^^^ y) K L st M
  | .ishl, _, _, _, K, L, st, M => o_b2 z_shl K L st M
  | .ishr, _, _, _, K, L, st, M => o_b2 z_shr K L st M
  | .iushr, _, _, _, K, L, st, M => o_b2 z_ushr K L st M
  | .idiv, _, _, _, K, L, st, M => o_bz (fun x y => x / y) K L st M
  | .irem, _, _, _, K, L, st, M => o_bz z_rem K L st M
  | .ladd, _, _, _, K, L, st, M => o_l2 (fun x y => x + y) K L st M
  | .lsub, _, _, _, K, L, st, M => o_l2 (fun x y => x - y) K L st M
  | .lmul, _, _, _, K, L, st, M => o_l2 (fun x y => x * y) K L st M
  | .land, _, _, _, K, L, st, M => o_l2 (fun x y => x &&& y) K L st M
  | .lor, _, _, _, K, L, st, M => o_l2 (fun x y => x ||| y) K L st M
  | .ldiv, _, _, _, K, L, st, M => o_lz (fun x y => x / y) K L st M
  | .lrem, _, _, _, K, L, st, M => o_lz z_lrem K L st M
  | .lshl, _, _, _, K, L, st, M => o_ls z_lshl K L st M
  | .lushr, _, _, _, K, L, st, M => o_ls z_lushr K L st M
  | .lneg, _, _, _, K, L, st, M => o_lneg K L st M
  | .i2l, _, _, _, K, L, st, M => o_i2l K L st M
  | .l2i, _, _, _, K, L, st, M => o_l2i K L st M
  | .lcmp, _, _, _, K, L, st, M => o_lcmp K L st M
  | .dup, _, _, _, K, L, st, M => o_dup K L st M
  | .dup_x1, _, _, _, K, L, st, M => o_dupx1 K L st M
  | .dup2, _, _, _, K, L, st, M => o_dup2 K L st M
  | .goto _, a, _, _, _, L, st, M => J a L st M
  | .ifCond .ne _, a, _, _, K, L, st, M => o_if (fun x => x = 0) K (J a) L st M
  | .ifCond c _, a, _, _, K, L, st, M => o_if (fun x => z_ic c x 0) (J a) K L st M
  | .if_icmp .ne _, a, _, _, K, L, st, M => o_if2 (fun x y => x = y) K (J a) L st M
  | .if_icmp c _, a, _, _, K, L, st, M => o_if2 (z_ic c) (J a) K L st M
  | .ifnull _, a, _, _, K, L, st, M => o_ifnull (J a) K L st M
  | .ifnonnull _, a, _, _, K, L, st, M => o_ifnull K (J a) L st M
  | .aconst_null, _, _, _, K, L, st, M => K L (.null :: st) M
  | .getfield _, a, b, c, K, L, st, M => o_get a b c K L st M
  | .putfield _, a, b, c, K, L, st, M => o_put a b c K L st M
  | .getstatic _, _, _, _, K, L, st, M => K L (.ref 0 :: st) M
  | .iaload, a, _, _, K, L, st, M => o_iald G a K L st M
  | .baload, _, _, _, K, L, st, M => o_zald K L st M
  | .aaload, _, _, _, K, L, st, M => o_aald K L st M
  | .arraylength, _, _, _, K, L, st, M => o_alen G K L st M
  | .iastore, _, _, _, K, L, st, M => o_iast K L st M
  | .bastore, _, _, _, K, L, st, M => o_zast K L st M
  | .aastore, _, _, _, K, L, st, M => o_aast K L st M
  | .new _, a, b, _, K, L, st, M => o_new (z_rm mid) z0 a b K L st M
  | .newarray .int, _, _, _, K, L, st, M => o_newa (z_rm mid) z0 2 K L st M
  | .newarray .boolean, _, _, _, K, L, st, M => o_newa (z_rm mid) z0 3 K L st M
  | .anewarray _, a, _, _, K, L, st, M => o_newa (z_rm mid) z0 a K L st M
  | .invokevirtual _, a, b, c, K, L, st, M => o_call C a b c K L st M
  | .invokestatic _, a, b, c, K, L, st, M => o_call C a b c K L st M
  | .invokespecial _, a, b, c, K, L, st, M => if c = 99 then o_obj K L st M else o_callN C (z_rm mid) z0 a b c K L st M
  | .ireturn, a, _, _, _, L, st, M => o_reti Rt a L st M
  | .lreturn, _, _, _, _, L, st, M => o_retl Rt L st M
  | .return_, _, _, _, _, L, st, M => o_ret Rt L st M
  | .tableswitch d lo hi offs, a, _, _, _, L, st, M => o_tsw J a d lo hi offs.toList L st M
  | .lookupswitch d ps, a, _, _, _, L, st, M => o_lsw J a d ps.toList L st M
  | _, _, _, _, _, _, _, _ => False
def z_wp (G : ZG) (mid : Nat) (z0 : Nat × Nat) (C : Nat → List Value → ZM → ZR → Prop) (Rt : ZR) (J : Nat → ZK) (E : ZK) : List ZO → ZL → List Value → ZM → Prop
  | [], L, st, M => E L st M
  | (i, a, b, c) :: r, L, st, M => z_hd G mid z0 C Rt J i a b c (z_wp G mid z0 C Rt J E r) L st M
abbrev ZE : Type := Bool × List Bool × List ZO × Nat
def z_fd : List (Nat × ZE) → Nat → Option ZE
  | [], _ => none
  | (k, x) :: t, p => if p = k then some x else z_fd t p
def z_qs (G : ZG) (mid : Nat) (z0 : Nat × Nat) (C : Nat → List Value → ZM → ZR → Prop) (Rt : ZR) (J0 Jn : Nat → ZK) (pc : Nat) : Option ZE → ZL → List Value → ZM → Prop
  | some (false, bs, ops, e), L, st, M => z_wp G mid z0 C Rt Jn (Jn e) ops (z_mk1 bs L) st M
  | _, L, st, M => J0 pc L st M
def z_q (G : ZG) (mid : Nat) (z0 : Nat × Nat) (bk : List (Nat × ZE)) (C : Nat → List Value → ZM → ZR → Prop) (Rt : ZR) (J0 : Nat → ZK) : Nat → Nat → ZL → List Value → ZM → Prop
  | 0, pc, L, st, M => J0 pc L st M
  | n + 1, pc, L, st, M => z_qs G mid z0 C Rt J0 (z_q G mid z0 bk C Rt J0 n) pc (z_fd bk pc) L st M
end
section
/-! what the heap holds, what a method stands on -/
def z_b0 (G : ZG) : Nat := G.1.1
def z_cell (G : ZG) (M : ZM) (a : Nat) (H : Heap) : Prop := match (M.2.2.2.1 a).1 with
  | 0 => True
  | 1 => ∃ r, z_cls[(M.2.2.2.1 a).2]? = some r ∧ t_OB (z_ad G a) (G.2.2.1.1 (M.2.2.2.1 a).2) r.2.2 (G.2.2.1.2 (M.2.2.2.1 a).2) H (fun k => z_em G (z_fv (z_fk (M.2.2.2.1 a).2 k) M a k))
  | 2 => H[z_ad G a]? = some (arrV (G.2.2.2.1 2) (M.2.2.2.1 a).2 (fun j => .int (M.1 a j)))
  | 3 => H[z_ad G a]? = some (arrV (G.2.2.2.1 3) (M.2.2.2.1 a).2 (fun j => .int (M.1 a j)))
  | k + 4 => H[z_ad G a]? = some (arrV (G.2.2.2.1 (k + 4)) (M.2.2.2.1 a).2 (fun j => z_em G (va_rf (M.2.1 a j))))
def z_Mo (G : ZG) (M : ZM) (H : Heap) : Prop :=
  (H.size + 2 = z_b0 G + M.2.2.2.2.1 ∧ 2 ≤ M.2.2.2.2.1) ∧ (∀ q : Nat, q < z_b0 G → H[q]? = G.2.2.2.2[q]?) ∧ (∀ a : Nat, (M.2.2.2.1 a).1 ≠ 0 → 2 ≤ a ∧ a < M.2.2.2.2.1) ∧ ∀ a : Nat, z_cell G M a H
def z_aty : Nat → FieldType
  | 2 => .int
  | 3 => .boolean
  | 4 => .object "MeshParents$Node"
  | 5 => .object "MeshParents$Link"
  | _ => .object "MeshParents$Mesh"
def z_Kn (G : ZG) (U : State) : Prop :=
  (∀ (c : Nat) (q : vw_C), z_cls[c]? = some q → u_Kn U q.1 q.2.1 q.2.2 (G.2.2.1.1 c) (G.2.2.1.2 c)) ∧
  (∀ k : Nat, 2 ≤ k → k ≤ 6 → ArrOfT U (G.2.2.2.1 k) (z_aty k) ∧ va_RA U (G.2.2.2.1 k) (z_aty k)) ∧
  va_Z "MeshParents" "FACTORIAL" "[I" (.ref G.1.2.1) (fun q => z_b0 G ≤ q) U G.2.2.2.2 ∧
  va_T .int G.1.2.1 9 (fun j => .int (z_fct j)) (fun q => z_b0 G ≤ q) U G.2.2.2.2 ∧
  (va_X G.1.2.2 G.2.1.1 G.2.1.2 U G.2.2.2.2 ∧ G.1.2.2 < z_b0 G ∧ G.2.2.2.2.size = z_b0 G ∧ G.2.1.1 < 2 ^ 31) ∧
  (∀ q ∈ z_nest, va_Nw (.methodLinkNest q.1 q.2.1 q.2.2.1 q.2.2.2) U) ∧
  (va_AO "MeshParents$Node" U ∧ va_AO "MeshParents$Link" U ∧ va_AO "MeshParents$Mesh" U)
theorem z_Kn.moved {G : ZG} {u U : State} (hvm : u.vm.Alike U.vm) (hn : ∀ q ∈ z_nest, va_Nw (.methodLinkNest q.1 q.2.1 q.2.2.1 q.2.2.2) U) (h : z_Kn G u) : z_Kn G U := by
  obtain ⟨h1, h2, h3, h4, ⟨h5, h5b⟩, h6, h7a, h7b, h7c⟩ := h
  exact ⟨fun c q hq => u_Kn_moved hvm (h1 c q hq), fun k a b => ⟨arrOfT_moved hvm (h2 k a b).1, (h2 k a b).2.moved hvm⟩, h3.moved hvm, h4.moved hvm, ⟨h5.moved hvm, h5b⟩, hn, h7a.moved hvm, h7b.moved hvm, h7c.moved hvm⟩
theorem z_Kn.warm {G : ZG} {s U : State} (hW : s.WarmedH U.vm) (h : z_Kn G s) : z_Kn G U := h.moved hW.alike (fun q hq => (h.2.2.2.2.2.1 q hq).warmM hW)
theorem z_Kn.same {G : ZG} {u U : State} (hv : u.vm = U.vm) (h : z_Kn G u) : z_Kn G U := h.moved (by rw [hv]; exact Vm.Alike.refl _) (fun q hq => (h.2.2.2.2.2.1 q hq).same rfl hv)
def z_ws (mid : Nat) : List Cond := z_cw mid :: z_tb
def z_lv (G : ZG) (nL : Nat) (ls : Array Slot) (L : ZL) : Prop := (ls.size = nL ∧ lv_wf ls) ∧ ∀ (k : Nat) (v : Value), z_lg k L = some v → ls[k]? = some (.val (z_em G v))
def z_Std (mid : Nat) (p : Program) (s : State) (m : MethodId) (args : Array Value) (meth : Method) (c : Code) : Prop :=
  (p.tables.exec = Jvm.exec ∧ c.code = z_mc mid) ∧ c.maxLocals = z_mL mid ∧ meth.sig.returnType = z_mr mid ∧ (∀ w ∈ z_tb, w.before args s = true) ∧ s.vm.findClass (z_my mid).cls = some m.cls ∧ meth.locks = false ∧ meth.name = (z_my mid).name
def z_Cn (mid : Nat) (z0 : Nat × Nat) (M : ZM) (cells slots : Nat) : Prop := (M.2.2.2.2.1 = z0.1 + cells ∧ M.2.2.2.2.2 = z0.2 + slots) ∧ cells ≤ (z_rm mid).cells ∧ slots ≤ (z_rm mid).slots
/-- a method's end: its instruction, and the answer -/
def z_rt (mid pc : Nat) : Option Value → Prop
  | none => decode (z_mc mid) pc = .ok (.return_, 1) ∧ z_mr mid = none
  | some (.int x) => decode (z_mc mid) pc = .ok (.ireturn, 1) ∧ ∃ ty, z_mr mid = some ty ∧ narrow ty (.int x) = .int x
  | some (.long _) => decode (z_mc mid) pc = .ok (.lreturn, 1) ∧ z_mr mid = some .long
  | _ => False
def z_Rets (l : Launch) (G : ZG) (mid : Nat) (z0 : Nat × Nat) (Rt : ZR) (p : Program) (e : Env) (s : State) (m : MethodId) (args : Array Value) (below : List Frame) (meth : Method) (c : Code) (Z : State → Prop) : Prop :=
  ∀ (pc : Nat) (ls : Array Slot) (H : Heap) (locs : List Loc) (cells slots : Nat) (v : Option Value) (M : ZM), z_rt mid pc v → z_Mo G M H → Rt v M → (∀ q ∈ locs, z_b0 G ≤ q.base) → z_Cn mid z0 M cells slots →
    W p l e (z_rm mid) s m args below meth c H locs cells slots Z (F0 m pc ls v.toList)
def z_W (l : Launch) (G : ZG) (mid : Nat) (z0 : Nat × Nat) (Rt : ZR) (pc : Nat) (L : ZL) (st : List Value) (M : ZM) : Prop :=
  ∀ (p : Program) (e : Env) (s : State) (m : MethodId) (args : Array Value) (below : List Frame) (meth : Method) (c : Code) (H : Heap) (locs : List Loc) (cells slots : Nat) (ls : Array Slot) (Z : State → Prop),
    z_Std mid p s m args meth c → z_Kn G s → z_Mo G M H → z_lv G (z_mL mid) ls L → (∀ q ∈ locs, z_b0 G ≤ q.base) → z_Cn mid z0 M cells slots → z_Rets l G mid z0 Rt p e s m args below meth c Z →
    W p l e (z_rm mid) s m args below meth c H locs cells slots Z (F0 m pc ls (st.map (z_em G)))
/-- a method's answer and the memory behind it -/
def z_Qc (G : ZG) (mid : Nat) (M : ZM) (Q : ZR) : Array Value → State → Outcome → State → Prop := fun _ _ o t => ∃ (r : Option Value) (M' : ZM), (o = .returned r ∧ Q r M' ∧ z_Mo G M' t.heap) ∧ (M'.2.2.2.2.1 = M.2.2.2.2.1 + (z_rm mid).cells ∧ M'.2.2.2.2.2 = M.2.2.2.2.2 + (z_rm mid).slots) ∧ ∀ x, r ≠ some (.ref x)
/-- a method, called with these arguments in this memory, comes to its end with Q -/
def z_Ok (l : Launch) (G : ZG) (mid : Nat) (as : List Value) (M : ZM) (Q : ZR) : Prop :=
  Met l (z_my mid) (z_ws mid) (z_rm mid) (fun v U => v = (as.map (z_em G)).toArray ∧ z_Mo G M U.heap ∧ z_Kn G U) (z_Qc G mid M Q) (z_rm mid).cells (z_rm mid).slots (fun q => z_b0 G ≤ q)
/-! locals -/
theorem z_cat (G : ZG) (v : Value) : (z_em G v).category = v.category := by cases v <;> rfl
theorem z_kl_some {x : Option Value} {w : Value} (h : z_kl x = some w) : x = some w ∧ w.category = 1 := by
  cases x with
  | none => cases h
  | some v => cases v <;> first | (simp [z_kl] at h; done) | (simp only [z_kl] at h; cases h; exact ⟨rfl, rfl⟩)
theorem z_lg_s1 : ∀ (L : ZL) (i k : Nat) (v w : Value), z_lg k (z_s1 i v L) = some w → (k = i ∧ w = v) ∨ (k ≠ i ∧ z_lg k L = some w ∧ ¬ (k + 1 = i ∧ w.category = 2))
  | [], i, k, v, w, h => by cases i <;> simp [z_s1, z_lg] at h
  | a :: t, 0, 0, v, w, h => by simp only [z_s1, z_lg] at h; cases h; exact Or.inl ⟨rfl, rfl⟩
  | a :: t, 0, k + 1, v, w, h => by simp only [z_s1, z_lg] at h; exact Or.inr ⟨by omega, h, by omega⟩
  | a :: t, 1, 0, v, w, h => by
    simp only [z_s1, z_lg] at h
    obtain ⟨h1, h2⟩ := z_kl_some h
    exact Or.inr ⟨by omega, by simpa [z_lg] using h1, by omega⟩
  | a :: t, 1, k + 1, v, w, h => by
    simp only [z_s1, z_lg] at h
    rcases z_lg_s1 t 0 k v w h with ⟨h1, h2⟩ | ⟨h1, h2, h3⟩
    · exact Or.inl ⟨by omega, h2⟩
    · exact Or.inr ⟨by omega, by simpa [z_lg] using h2, by omega⟩
  | a :: t, n + 2, 0, v, w, h => by simp only [z_s1, z_lg] at h; exact Or.inr ⟨by omega, by simpa [z_lg] using h, by omega⟩
  | a :: t, n + 2, k + 1, v, w, h => by
    simp only [z_s1, z_lg] at h
    rcases z_lg_s1 t (n + 1) k v w h with ⟨h1, h2⟩ | ⟨h1, h2, h3⟩
    · exact Or.inl ⟨by omega, h2⟩
    · exact Or.inr ⟨by omega, by simpa [z_lg] using h2, fun q => h3 ⟨by omega, q.2⟩⟩
theorem z_lg_s2 : ∀ (L : ZL) (i k : Nat) (v w : Value), z_lg k (z_s2 i v L) = some w → (k = i ∧ w = v) ∨ (k ≠ i ∧ k ≠ i + 1 ∧ z_lg k L = some w ∧ ¬ (k + 1 = i ∧ w.category = 2))
  | [], i, k, v, w, h => by cases i <;> simp [z_s2, z_lg] at h
  | [a], 0, k, v, w, h => by simp [z_s2, z_lg] at h
  | a :: b :: t, 0, 0, v, w, h => by simp only [z_s2, z_lg] at h; cases h; exact Or.inl ⟨rfl, rfl⟩
  | a :: b :: t, 0, 1, v, w, h => by simp [z_s2, z_lg] at h
  | a :: b :: t, 0, k + 2, v, w, h => by simp only [z_s2, z_lg] at h; exact Or.inr ⟨by omega, by omega, h, by omega⟩
  | a :: t, 1, 0, v, w, h => by
    simp only [z_s2, z_lg] at h
    obtain ⟨h1, h2⟩ := z_kl_some h
    exact Or.inr ⟨by omega, by omega, by simpa [z_lg] using h1, by omega⟩
  | a :: t, 1, k + 1, v, w, h => by
    simp only [z_s2, z_lg] at h
    rcases z_lg_s2 t 0 k v w h with ⟨h1, h2⟩ | ⟨h1, h1b, h2, h3⟩
    · exact Or.inl ⟨by omega, h2⟩
    · exact Or.inr ⟨by omega, by omega, by simpa [z_lg] using h2, by omega⟩
  | a :: t, n + 2, 0, v, w, h => by simp only [z_s2, z_lg] at h; exact Or.inr ⟨by omega, by omega, by simpa [z_lg] using h, by omega⟩
  | a :: t, n + 2, k + 1, v, w, h => by
    simp only [z_s2, z_lg] at h
    rcases z_lg_s2 t (n + 1) k v w h with ⟨h1, h2⟩ | ⟨h1, h1b, h2, h3⟩
    · exact Or.inl ⟨by omega, h2⟩
    · exact Or.inr ⟨by omega, by omega, by simpa [z_lg] using h2, fun q => h3 ⟨by omega, q.2⟩⟩
theorem z_lg_mk : ∀ (b : List Bool) (L : ZL) (k : Nat) (w : Value), z_lg k (z_mk1 b L) = some w → z_lg k L = some w
  | [], L, k, w, h => by cases L <;> simp [z_mk1, z_lg] at h
  | true :: b, [], k, w, h => by simp [z_mk1, z_lg] at h
  | false :: b, [], k, w, h => by simp [z_mk1, z_lg] at h
  | true :: b, x :: t, 0, w, h => by simpa [z_mk1, z_lg] using h
  | false :: b, x :: t, 0, w, h => by simp [z_mk1, z_lg] at h
  | true :: b, x :: t, k + 1, w, h => by simp only [z_mk1, z_lg] at h; simpa [z_lg] using z_lg_mk b t k w h
  | false :: b, x :: t, k + 1, w, h => by simp only [z_mk1, z_lg] at h; simpa [z_lg] using z_lg_mk b t k w h
/-- the set locals as a list -/
def z_ll (G : ZG) : Nat → ZL → List (Nat × Value)
  | _, [] => []
  | i, some v :: t => (i, z_em G v) :: z_ll G (i + 1) t
  | i, none :: t => z_ll G (i + 1) t
theorem z_ll_mem {G : ZG} : ∀ (L : ZL) (i k : Nat) (w : Value), z_lg k L = some w → (i + k, z_em G w) ∈ z_ll G i L
  | [], i, k, w, h => by simp [z_lg] at h
  | some v :: t, i, 0, w, h => by simp only [z_lg] at h; cases h; exact List.mem_cons_self
  | none :: t, i, 0, w, h => by simp [z_lg] at h
  | some v :: t, i, k + 1, w, h => by
    simp only [z_lg] at h
    have := z_ll_mem (G := G) t (i + 1) k w h
    rw [show i + (k + 1) = i + 1 + k by omega]
    exact List.mem_cons_of_mem _ this
  | none :: t, i, k + 1, w, h => by
    simp only [z_lg] at h
    have := z_ll_mem (G := G) t (i + 1) k w h
    rw [show i + (k + 1) = i + 1 + k by omega]
    exact this
theorem z_ll_of {G : ZG} : ∀ (L : ZL) (i : Nat) (q : Nat × Value), q ∈ z_ll G i L → ∃ (k : Nat) (w : Value), q = (i + k, z_em G w) ∧ z_lg k L = some w
  | [], i, q, h => by simp [z_ll] at h
  | some v :: t, i, q, h => by
    simp only [z_ll] at h
    rcases List.mem_cons.mp h with rfl | h
    · exact ⟨0, v, rfl, rfl⟩
    · obtain ⟨k, w, h1, h2⟩ := z_ll_of t (i + 1) q h
      exact ⟨k + 1, w, by rw [h1, show i + 1 + k = i + (k + 1) by omega], h2⟩
  | none :: t, i, q, h => by
    simp only [z_ll] at h
    obtain ⟨k, w, h1, h2⟩ := z_ll_of t (i + 1) q h
    exact ⟨k + 1, w, by rw [h1, show i + 1 + k = i + (k + 1) by omega], h2⟩
theorem z_lv.has {G : ZG} {nL : Nat} {ls : Array Slot} {L : ZL} (h : z_lv G nL ls L) : lv_has ls nL (z_ll G 0 L) := by
  refine ⟨h.1.1, h.1.2, fun q hq => ?_⟩
  obtain ⟨k, w, rfl, h2⟩ := z_ll_of L 0 q hq
  rw [Nat.zero_add]
  exact h.2 k w h2
theorem z_lv.st1 {G : ZG} {nL : Nat} {ls : Array Slot} {L : ZL} {i : Nat} {v : Value} (h : lv_has ls nL ((i, z_em G v) :: (z_ll G 0 L).filter (fun q => !(q.1 == i) && !(q.1 + 1 == i && q.2.category == 2)))) : z_lv G nL ls (z_s1 i v L) := by
  refine ⟨⟨h.1, h.2.1⟩, fun k w hk => ?_⟩
  rcases z_lg_s1 L i k v w hk with ⟨rfl, rfl⟩ | ⟨h1, h2, h3⟩
  · exact h.2.2 _ List.mem_cons_self
  · refine h.2.2 (k, z_em G w) (List.mem_cons_of_mem _ (List.mem_filter.mpr ⟨?_, ?_⟩))
    · have := z_ll_mem (G := G) L 0 k w h2
      rwa [Nat.zero_add] at this
    · rw [← z_cat G w] at h3
      simp [h1]
      by_cases a : k + 1 = i
      · exact Or.inr fun b => h3 ⟨a, b⟩
      · exact Or.inl a
theorem z_lv.st2 {G : ZG} {nL : Nat} {ls : Array Slot} {L : ZL} {i : Nat} {v : Value} (h : lv_has ls nL ((i, z_em G v) :: (z_ll G 0 L).filter (fun q => !(q.1 == i) && (!(q.1 == i + 1) && !(q.1 + 1 == i && q.2.category == 2))))) : z_lv G nL ls (z_s2 i v L) := by
  refine ⟨⟨h.1, h.2.1⟩, fun k w hk => ?_⟩
  rcases z_lg_s2 L i k v w hk with ⟨rfl, rfl⟩ | ⟨h1, h1b, h2, h3⟩
  · exact h.2.2 _ List.mem_cons_self
  · refine h.2.2 (k, z_em G w) (List.mem_cons_of_mem _ (List.mem_filter.mpr ⟨?_, ?_⟩))
    · have := z_ll_mem (G := G) L 0 k w h2
      rwa [Nat.zero_add] at this
    · rw [← z_cat G w] at h3
      simp [h1, h1b]
      by_cases a : k + 1 = i
      · exact Or.inr fun b => h3 ⟨a, b⟩
      · exact Or.inl a
theorem z_lv.mk {G : ZG} {nL : Nat} {ls : Array Slot} {L : ZL} (b : List Bool) (h : z_lv G nL ls L) : z_lv G nL ls (z_mk1 b L) := ⟨h.1, fun k w hk => h.2 k w (z_lg_mk b L k w hk)⟩
/-! the heap -/
theorem z_ad_inj {G : ZG} {a b : Nat} (ha : 2 ≤ a) (hb : 2 ≤ b) (h : z_ad G a = z_ad G b) : a = b := by
  match a, b, ha, hb, h with
  | a + 2, b + 2, _, _, h => simp only [z_ad] at h; omega
theorem z_ad_ge {G : ZG} {a : Nat} (ha : 2 ≤ a) : z_ad G a = z_b0 G + (a - 2) := by
  match a, ha with
  | a + 2, _ => rfl
theorem z_fv_same {M M' : ZM} {a : Nat} (t k : Nat) (h1 : M'.1 a k = M.1 a k) (h2 : M'.2.1 a k = M.2.1 a k) (h3 : M'.2.2.1 a k = M.2.2.1 a k) : z_fv t M a k = z_fv t M' a k := by
  match t with
  | 0 => show Value.int _ = Value.int _; rw [h1]
  | 1 => show Value.long _ = Value.long _; rw [h3]
  | 2 => show va_rf _ = va_rf _; rw [h2]
  | t + 3 => show Value.int _ = Value.int _; rw [h1]
theorem z_cell.same {G : ZG} {M M' : ZM} {a : Nat} {H H' : Heap} (h : z_cell G M a H) (h1 : ∀ j, M'.1 a j = M.1 a j) (h2 : ∀ j, M'.2.1 a j = M.2.1 a j) (h3 : ∀ j, M'.2.2.1 a j = M.2.2.1 a j) (h4 : M'.2.2.2.1 a = M.2.2.2.1 a) (h5 : (M.2.2.2.1 a).1 ≠ 0 → H'[z_ad G a]? = H[z_ad G a]?) : z_cell G M' a H' := by
  unfold z_cell at h ⊢
  rw [h4]
  generalize hq : M.2.2.2.1 a = q at h h5 ⊢
  obtain ⟨k, n⟩ := q
  have e1 : (fun j => Value.int (M'.1 a j)) = (fun j => Value.int (M.1 a j)) := funext fun j => by rw [h1]
  have e2 : (fun j => z_em G (va_rf (M'.2.1 a j))) = (fun j => z_em G (va_rf (M.2.1 a j))) := funext fun j => by rw [h2]
  match k, h, h5 with
  | 0, _, _ => trivial
  | 1, ⟨r, h6, h7⟩, h5 =>
    refine ⟨r, h6, (h7.kept (h5 (by simp))).to fun k hk => ?_⟩
    congr 1
    exact z_fv_same _ k (h1 k) (h2 k) (h3 k)
  | 2, h, h5 => show H'[_]? = _; rw [e1, h5 (by simp)]; exact h
  | 3, h, h5 => show H'[_]? = _; rw [e1, h5 (by simp)]; exact h
  | k + 4, h, h5 => show H'[_]? = _; rw [e2, h5 (by simp)]; exact h
/-- one cell changes -/
theorem z_Mo.upd {G : ZG} {M M' : ZM} {H H' : Heap} {a : Nat} (h : z_Mo G M H) (ha : (M.2.2.2.1 a).1 ≠ 0) (hT : M'.2.2.2 = M.2.2.2) (hz : H'.size = H.size) (ho : ∀ q : Nat, q ≠ z_ad G a → H'[q]? = H[q]?) (h1 : ∀ b, b ≠ a → ∀ j, M'.1 b j = M.1 b j) (h2 : ∀ b, b ≠ a → ∀ j, M'.2.1 b j = M.2.1 b j) (h3 : ∀ b, b ≠ a → ∀ j, M'.2.2.1 b j = M.2.2.1 b j) (hc : z_cell G M' a H') : z_Mo G M' H' := by
  obtain ⟨⟨q1, q1b⟩, q2, q3, q4⟩ := h
  have h2a := (q3 a ha).1
  refine ⟨⟨by rw [hz, hT]; exact q1, by rw [hT]; exact q1b⟩, fun q hq => ?_, fun b hb => ?_, fun b => ?_⟩
  · rw [ho q (fun e => by rw [z_ad_ge h2a] at e; omega)]
    exact q2 q hq
  · rw [hT] at hb ⊢
    exact q3 b hb
  · by_cases e : b = a
    · subst e; exact hc
    · refine (q4 b).same (h1 b e) (h2 b e) (h3 b e) (by rw [hT]) fun hb => ho _ fun e2 => e (z_ad_inj (q3 b hb).1 h2a e2)
theorem z_loc {G : ZG} {M : ZM} {H : Heap} {a i : Nat} {locs : List Loc} (h : z_Mo G M H) (ha : (M.2.2.2.1 a).1 ≠ 0) (hl : ∀ q ∈ locs, z_b0 G ≤ q.base) : ∀ q ∈ locs ++ [⟨z_ad G a, i⟩], z_b0 G ≤ q.base := by
  intro q hq
  rcases List.mem_append.mp hq with h1 | h1
  · exact hl q h1
  · rw [List.mem_singleton.mp h1]
    show z_b0 G ≤ z_ad G a
    rw [z_ad_ge (h.2.2.1 a ha).1]
    exact Nat.le_add_right _ _
theorem z_Mo.obj {G : ZG} {M : ZM} {H : Heap} {a ci : Nat} (h : z_Mo G M H) (ha : M.2.2.2.1 a = (1, ci)) : ∃ r, z_cls[ci]? = some r ∧ t_OB (z_ad G a) (G.2.2.1.1 ci) r.2.2 (G.2.2.1.2 ci) H (fun k => z_em G (z_fv (z_fk ci k) M a k)) := by
  have := h.2.2.2 a
  unfold z_cell at this
  rw [ha] at this
  exact this
end
section
/-! the rows of single instructions, over the memory -/
section
variable {l : Launch} {G : ZG} {mid : Nat} {z0 : Nat × Nat} {Rt : ZR} {pc : Nat} {L : ZL} {st : List Value} {M : ZM}
theorem z_row {pc' : Nat} {st' : List Value} (row : ∀ {p : Program} {e : Env} {R : Room} {s : State} {m : MethodId} {args : Array Value} {below : List Frame} {meth : Method} {c : Code} {H : Heap} {locs : List Loc} {cells slots : Nat} {Z : State → Prop} {ls : Array Slot}, p.tables.exec = Jvm.exec → c.code = z_mc mid → W p l e R s m args below meth c H locs cells slots Z (F0 m pc' ls (st'.map (z_em G))) → W p l e R s m args below meth c H locs cells slots Z (F0 m pc ls (st.map (z_em G))))
    (h : z_W l G mid z0 Rt pc' L st' M) : z_W l G mid z0 Rt pc L st M :=
  fun p e s m args below meth c H locs cells slots ls Z hS hN hM hl hlo hC hR => row hS.1.1 hS.1.2 (h p e s m args below meth c H locs cells slots ls Z hS hN hM hl hlo hC hR)
theorem z_mask (b : List Bool) (h : z_W l G mid z0 Rt pc (z_mk1 b L) st M) : z_W l G mid z0 Rt pc L st M :=
  fun p e s m args below meth c H locs cells slots ls Z hS hN hM hl hlo hC hR => h p e s m args below meth c H locs cells slots ls Z hS hN hM (hl.mk b) hlo hC hR
theorem s_get {idx ci k ty o : Nat} {r : vw_C} (hd : decode (z_mc mid) pc = .ok (.getfield idx, 3)) (hc : z_cls[ci]? = some r) (hk : k < r.2.2) (hty : z_fk ci k = ty) (hw : Cond.fieldLink (z_my mid).cls idx (r.2.1 k).1 (r.2.1 k).2.1 (r.2.1 k).2.2.1 ∈ z_tb) (ht : M.2.2.2.1 o = (1, ci))
    (h : z_W l G mid z0 Rt (pc + 3) L (z_fv ty M o k :: st) M) : z_W l G mid z0 Rt pc L (.ref o :: st) M := by
  intro p e s m args below meth c H locs cells slots ls Z hS hN hM hl hlo hC hR
  obtain ⟨⟨hx, hb⟩, hml, hr, hts, hown, hlk, hnm⟩ := id hS
  obtain ⟨hin, hnames, ⟨y, hy, hpd⟩, hini, hins⟩ := z_clsok ci r hc
  obtain ⟨r', hr', cell, q1, q2, q3, q4⟩ := hM.obj ht
  obtain rfl : r' = r := Option.some.inj (hr'.symm.trans hc)
  obtain ⟨hSl, hfc, kC, hkC, hkind⟩ := hN.1 ci _ hc
  obtain ⟨cf, kf, fi, f, hi, hsl⟩ := hSl k hk
  refine W.getf hx hb hown (hts _ hw) hi (u_facts hfc hkC (u_lays hts hin hk) hi).1 q1 (by rw [q3]; exact fun h => by cases h) (v := z_em G (z_fv ty M o k)) ?_ rfl rfl hd (h p e s m args below meth c H locs cells slots ls Z hS hN hM hl hlo hC hR)
  rw [hsl, ← hty]
  exact q4 k hk
theorem s_put {idx ci k o : Nat} {v : Value} {M' : ZM} {r : vw_C} {ty : FieldType} (hd : decode (z_mc mid) pc = .ok (.putfield idx, 3)) (hc : z_cls[ci]? = some r) (hk : k < r.2.2) (hw : Cond.fieldLink (z_my mid).cls idx (r.2.1 k).1 (r.2.1 k).2.1 (r.2.1 k).2.2.1 ∈ z_tb) (hfin : (r.2.1 k).2.2.2 = false ∨ ((z_my mid).name = "<init>" ∧ (r.2.1 k).1 = (z_my mid).cls))
    (hpt : parseFieldDescriptor (r.2.1 k).2.2.1 = some ty) (hn : narrow ty (z_em G v) = z_em G v) (hf : fits ty (z_em G v) = true)
    (ht : M.2.2.2.1 o = (1, ci)) (hT : M'.2.2.2 = M.2.2.2) (h1 : ∀ b, b ≠ o → ∀ j, M'.1 b j = M.1 b j) (h2 : ∀ b, b ≠ o → ∀ j, M'.2.1 b j = M.2.1 b j) (h3 : ∀ b, b ≠ o → ∀ j, M'.2.2.1 b j = M.2.2.1 b j)
    (hV : ∀ j, z_fv (z_fk ci j) M' o j = if j = k then v else z_fv (z_fk ci j) M o j)
    (h : z_W l G mid z0 Rt (pc + 3) L st M') : z_W l G mid z0 Rt pc L (v :: .ref o :: st) M := by
  intro p e s m args below meth c H locs cells slots ls Z hS hN hM hl hlo hC hR
  obtain ⟨⟨hx, hb⟩, hml, hr, hts, hown, hlk, hnm⟩ := id hS
  obtain ⟨hin, hnames, ⟨y, hy, hpd⟩, hini, hins⟩ := z_clsok ci r hc
  obtain ⟨r', hr', cell, q1, q2, q3, q4⟩ := hM.obj ht
  obtain rfl : r' = r := Option.some.inj (hr'.symm.trans hc)
  obtain ⟨hSl, hfc, kC, hkC, hkind⟩ := hN.1 ci _ hc
  have hap : ∀ x y, x < r'.2.2 → y < r'.2.2 → x ≠ y → (G.2.2.1.2 ci) x ≠ (G.2.2.1.2 ci) y := by
    intro x y' hx' hy' hne
    obtain ⟨_, _, _, fa, hia, ea⟩ := hSl x hx'
    obtain ⟨_, _, _, fb, hib, eb⟩ := hSl y' hy'
    rw [← ea, ← eb]
    refine u_apart (u_lays hts hin hx') (u_lays hts hin hy') hia hib ?_
    rw [(State.fieldFound?_type hia (hpd x hx')).1, (State.fieldFound?_type hib (hpd y' hy')).1]
    exact hnames x hx' y' hy' hne
  obtain ⟨cf, kf, fi, f, hi, hsl⟩ := hSl k hk
  have hlay := hts _ (hin _ (u_in_lay hk))
  have hst := (u_facts hfc hkC (u_lays hts hin hk) hi).1
  have goal : ∀ H' : Heap, H'[z_ad G o]? = some (cell.setSlot f.slot (z_em G v)) → H'.size = H.size → (∀ q, q ≠ z_ad G o → H'[q]? = H[q]?) → W p l e (z_rm mid) s m args below meth c H' (locs ++ [⟨z_ad G o, f.slot⟩]) cells slots Z (F0 m (pc + 3) ls (st.map (z_em G))) := by
    intro H' e1 e2 e3
    refine h p e s m args below meth c H' _ cells slots ls Z hS hN (hM.upd (by rw [ht]; simp) hT e2 e3 h1 h2 h3 ?_) hl (z_loc hM (by rw [ht]; simp) hlo) ⟨by rw [hT]; exact hC.1, hC.2⟩ hR
    unfold z_cell
    rw [hT, ht]
    refine ⟨_, hc, ?_⟩
    rw [hsl] at e1
    refine t_OB.to (V := updV (fun k => z_em G (z_fv (z_fk ci k) M o k)) k (z_em G v)) ⟨_, e1, q2, q3, t_set q4 hap hk _⟩ (fun j _ => ?_)
    show (if j = k then _ else _) = _
    rw [hV j]
    by_cases e : j = k
    · rw [if_pos e, if_pos e]
    · rw [if_neg e, if_neg e]
  have hhs : f.slot < cell.slots.size := by rw [hsl]; exact k2_hasslot (q4 k hk)
  unfold u_lay at hlay
  cases hF : (r'.2.1 k).2.2.2 with
  | false =>
    rw [if_neg (by rw [hF]; decide)] at hlay
    have h6 := u_store hfc hkC hkind hlay hi hpt hn hf
    exact W.putK hx hb (f := f) ⟨hown, hts _ hw, ⟨_, _, _, hi⟩, hst⟩ (by rw [q2]; exact h6) q1 q3 hhs rfl rfl hd goal
  | true =>
    rcases hfin with h9 | ⟨h9, h9b⟩
    · rw [hF] at h9; cases h9
    rw [if_pos hF] at hlay
    have hcf : m.cls = cf := by
      obtain ⟨_, _, c', _, _, _, -, -, hf', -, -, -, hown2, -⟩ := Cond.laysFinal_spec hlay
      have e1 : c' = cf := by have := hi.symm.trans hf'; simp at this; exact this.1.symm
      rw [h9b] at hown2
      rw [← e1]; exact Option.some.inj (hown.symm.trans hown2)
    have h6 := u_fits hfc hkC hkind (Or.inr hlay) hi hpt hn hf
    exact W.putFinK hx hb hown (hts _ hw) hi hst hcf (hnm.trans h9) (by rw [q2]; exact h6) q1 q3 hhs rfl rfl hd goal
/-! arrays -/
theorem z_Mo.arr {H : Heap} {a k n : Nat} (h : z_Mo G M H) (ha : M.2.2.2.1 a = (k, n)) (hk : k = 2 ∨ k = 3) : H[z_ad G a]? = some (arrV (G.2.2.2.1 k) n (fun j => .int (M.1 a j))) := by
  have := h.2.2.2 a
  unfold z_cell at this
  rw [ha] at this
  rcases hk with rfl | rfl <;> exact this
theorem z_Mo.arq {H : Heap} {a k n : Nat} (h : z_Mo G M H) (ha : M.2.2.2.1 a = (k, n)) (hk : 4 ≤ k) : H[z_ad G a]? = some (arrV (G.2.2.2.1 k) n (fun j => z_em G (va_rf (M.2.1 a j)))) := by
  have := h.2.2.2 a
  unfold z_cell at this
  rw [ha] at this
  match k, hk, this with
  | k + 4, _, this => exact this
theorem z_cell_arq {M : ZM} {H : Heap} {a k n : Nat} (ha : M.2.2.2.1 a = (k, n)) (hk : 4 ≤ k) (h : H[z_ad G a]? = some (arrV (G.2.2.2.1 k) n (fun j => z_em G (va_rf (M.2.1 a j))))) : z_cell G M a H := by
  unfold z_cell
  rw [ha]
  match k, hk, h with
  | k + 4, _, h => exact h
theorem z_upR {M : ZM} {H H' : Heap} {o k n v : Nat} {i : Int32} (hM : z_Mo G M H) (ht : M.2.2.2.1 o = (k, n)) (hk : 4 ≤ k) (e1 : H'[z_ad G o]? = some ((arrV (G.2.2.2.1 k) n (fun j => z_em G (va_rf (M.2.1 o j)))).setSlot i.toNatClampNeg (.ref (z_ad G v)))) (e2 : H'.size = H.size) (e3 : ∀ q, q ≠ z_ad G o → H'[q]? = H[q]?) : z_Mo G (M.1, z_uR M.2.1 o (z_ix i) (some v), M.2.2) H' := by
  refine hM.upd (a := o) (by rw [ht]; show k ≠ 0; omega) rfl e2 e3 (fun _ _ _ => rfl) (fun b hb j => if_neg (fun q => hb q.1)) (fun _ _ _ => rfl) (z_cell_arq (k := k) (n := n) ht hk ?_)
  rw [e1, arrV_store]
  congr 2
  funext j
  show updV _ _ _ j = z_em G (va_rf (z_uR M.2.1 o (z_ix i) (some v) o j))
  unfold updV z_uR z_ix
  by_cases hj : j = i.toNatClampNeg
  · rw [if_pos hj, if_pos ⟨rfl, hj⟩]; rfl
  · rw [if_neg hj, if_neg (fun q => hj q.2)]
theorem z_in_lt {i : Int32} {n : Nat} (h : vp_in i n) : i.toNatClampNeg < n := Nat.not_le.mp fun q => h (Or.inr q)
theorem s_iald {o n : Nat} {i : Int32} (hd : decode (z_mc mid) pc = .ok (.iaload, 1)) (ht : M.2.2.2.1 o = (2, n)) (hi : vp_in i n) (h : z_W l G mid z0 Rt (pc + 1) L (.int (M.1 o (z_ix i)) :: st) M) : z_W l G mid z0 Rt pc L (.int i :: .ref o :: st) M := by
  intro p e s m args below meth c H locs cells slots ls Z hS hN hM hl hlo hC hR
  exact W.iald (v := .int (M.1 o (z_ix i))) hS.1.1 hS.1.2 (hM.arr ht (Or.inl rfl)) ((hN.2.1 2 (by omega) (by omega)).1 n _) (fun q => by cases q) (by rw [arrV_size]; exact hi) (by rw [arrV_read _ _ (z_in_lt hi)]; rfl) rfl rfl hd (h p e s m args below meth c H locs cells slots ls Z hS hN hM hl hlo hC hR)
theorem s_zald {o n : Nat} {i : Int32} (hd : decode (z_mc mid) pc = .ok (.baload, 1)) (ht : M.2.2.2.1 o = (3, n)) (hi : vp_in i n) (h : z_W l G mid z0 Rt (pc + 1) L (.int (M.1 o (z_ix i)) :: st) M) : z_W l G mid z0 Rt pc L (.int i :: .ref o :: st) M := by
  intro p e s m args below meth c H locs cells slots ls Z hS hN hM hl hlo hC hR
  exact W.zald (v := .int (M.1 o (z_ix i))) hS.1.1 hS.1.2 (hM.arr ht (Or.inr rfl)) ((hN.2.1 3 (by omega) (by omega)).1 n _) (fun q => by cases q) (by rw [arrV_size]; exact hi) (by rw [arrV_read _ _ (z_in_lt hi)]; rfl) rfl rfl hd (h p e s m args below meth c H locs cells slots ls Z hS hN hM hl hlo hC hR)
theorem z_atyR {k : Nat} (hk : 4 ≤ k) : (z_aty k).isReference = true := by
  match k, hk with
  | 4, _ => rfl
  | 5, _ => rfl
  | k + 6, _ => rfl
theorem s_aald {o k n : Nat} {i : Int32} (hd : decode (z_mc mid) pc = .ok (.aaload, 1)) (ht : M.2.2.2.1 o = (k, n)) (hk : 4 ≤ k ∧ k ≤ 6) (hi : vp_in i n) (h : z_W l G mid z0 Rt (pc + 1) L (va_rf (M.2.1 o (z_ix i)) :: st) M) : z_W l G mid z0 Rt pc L (.int i :: .ref o :: st) M := by
  intro p e s m args below meth c H locs cells slots ls Z hS hN hM hl hlo hC hR
  exact W.aald (v := z_em G (va_rf (M.2.1 o (z_ix i)))) hS.1.1 hS.1.2 (hM.arq ht hk.1) ((hN.2.1 k (by omega) hk.2).1 n _) (z_atyR hk.1) (fun q => by cases q) (by rw [arrV_size]; exact hi) (by rw [arrV_read _ _ (z_in_lt hi)]; rfl) rfl rfl hd (h p e s m args below meth c H locs cells slots ls Z hS hN hM hl hlo hC hR)
theorem s_iast {o n : Nat} {i x : Int32} (hd : decode (z_mc mid) pc = .ok (.iastore, 1)) (ht : M.2.2.2.1 o = (2, n)) (hi : vp_in i n) (h : z_W l G mid z0 Rt (pc + 1) L st (z_u2 M.1 o (z_ix i) x, M.2)) : z_W l G mid z0 Rt pc L (.int x :: .int i :: .ref o :: st) M := by
  intro p e s m args below meth c H locs cells slots ls Z hS hN hM hl hlo hC hR
  refine W.iast hS.1.1 hS.1.2 (hM.arr ht (Or.inl rfl)) ((hN.2.1 2 (by omega) (by omega)).1 n _) (fun q => by cases q) (by rw [arrV_size]; exact hi) rfl rfl hd fun H' e1 e2 e3 => ?_
  refine h p e s m args below meth c H' _ cells slots ls Z hS hN (hM.upd (by rw [ht]; simp) rfl e2 e3 (fun b hb j => if_neg (fun q => hb q.1)) (fun _ _ _ => rfl) (fun _ _ _ => rfl) ?_) hl (z_loc hM (by rw [ht]; simp) hlo) hC hR
  unfold z_cell
  show match (M.2.2.2.1 o).1 with | 0 => _ | 1 => _ | 2 => _ | 3 => _ | k + 4 => _
  rw [ht]
  show H'[_]? = _
  rw [e1, arrV_store]
  congr 2
  funext j
  show updV _ _ _ j = Value.int (z_u2 M.1 o (z_ix i) x o j)
  unfold updV z_u2 z_ix
  by_cases hj : j = i.toNatClampNeg
  · rw [if_pos hj, if_pos ⟨rfl, hj⟩]
  · rw [if_neg hj, if_neg (fun q => hj q.2)]
theorem s_zast {o n : Nat} {i x : Int32} (hd : decode (z_mc mid) pc = .ok (.bastore, 1)) (ht : M.2.2.2.1 o = (3, n)) (hi : vp_in i n) (hx01 : x = 0 ∨ x = 1) (h : z_W l G mid z0 Rt (pc + 1) L st (z_u2 M.1 o (z_ix i) x, M.2)) : z_W l G mid z0 Rt pc L (.int x :: .int i :: .ref o :: st) M := by
  intro p e s m args below meth c H locs cells slots ls Z hS hN hM hl hlo hC hR
  have hn : narrow .boolean (.int x) = .int x := by rcases hx01 with rfl | rfl <;> rfl
  refine W.zast hS.1.1 hS.1.2 (hM.arr ht (Or.inr rfl)) ((hN.2.1 3 (by omega) (by omega)).1 n _) (fun q => by cases q) (by rw [arrV_size]; exact hi) rfl rfl hd fun H' e1 e2 e3 => ?_
  refine h p e s m args below meth c H' _ cells slots ls Z hS hN (hM.upd (by rw [ht]; simp) rfl e2 e3 (fun b hb j => if_neg (fun q => hb q.1)) (fun _ _ _ => rfl) (fun _ _ _ => rfl) ?_) hl (z_loc hM (by rw [ht]; simp) hlo) hC hR
  unfold z_cell
  show match (M.2.2.2.1 o).1 with | 0 => _ | 1 => _ | 2 => _ | 3 => _ | k + 4 => _
  rw [ht]
  show H'[_]? = _
  rw [e1, arrV_store, hn]
  congr 2
  funext j
  show updV _ _ _ j = Value.int (z_u2 M.1 o (z_ix i) x o j)
  unfold updV z_u2 z_ix
  by_cases hj : j = i.toNatClampNeg
  · rw [if_pos hj, if_pos ⟨rfl, hj⟩]
  · rw [if_neg hj, if_neg (fun q => hj q.2)]
theorem z_acOk {k : Nat} (hk : 4 ≤ k ∧ k ≤ 6) : ∃ r : vw_C, z_cls[z_ac k]? = some r ∧ z_aty k = .object r.1 := by
  obtain ⟨h1, h2⟩ := hk
  rcases (show k = 4 ∨ k = 5 ∨ k = 6 by omega) with rfl | rfl | rfl <;> exact ⟨_, rfl, rfl⟩
theorem s_aast {o v k n : Nat} {i : Int32} (hd : decode (z_mc mid) pc = .ok (.aastore, 1)) (ht : M.2.2.2.1 o = (k, n)) (hk : 4 ≤ k ∧ k ≤ 6) (hi : vp_in i n) (hv : M.2.2.2.1 v = (1, z_ac k)) (h : z_W l G mid z0 Rt (pc + 1) L st (M.1, z_uR M.2.1 o (z_ix i) (some v), M.2.2)) : z_W l G mid z0 Rt pc L (.ref v :: .int i :: .ref o :: st) M := by
  intro p e s m args below meth c H locs cells slots ls Z hS hN hM hl hlo hC hR
  obtain ⟨r, hr, hro⟩ := z_acOk hk
  obtain ⟨r', hr', cellV, g1, g2, g3, -⟩ := hM.obj hv
  have hcls := (hN.1 (z_ac k) r hr).2
  have hra := (hN.2.1 k (by omega) hk.2).2
  rw [hro] at hra
  obtain ⟨kA, comp, k1, k2, k3, -⟩ := hra
  have hcomp : comp = G.2.2.1.1 (z_ac k) := Option.some.inj (k3.symm.trans hcls.1)
  subst hcomp
  obtain ⟨kC, hkC, -⟩ := hcls.2
  refine W.aast hS.1.1 hS.1.2 (hM.arq ht hk.1) (fun q h => by cases h) (fun h => by cases h) k1 k2 rfl hkC ⟨fun q => hi (Or.inl q), by rw [arrV_size]; exact z_in_lt hi⟩ g1 (fun q h => by rw [g3] at h; cases h) (by rw [g2]; exact hkC) (by rw [g2]; exact va_assign hcls) rfl rfl hd fun H' e1 e2 e3 => ?_
  exact h p e s m args below meth c H' _ cells slots ls Z hS hN (z_upR hM ht hk.1 e1 e2 e3) hl (z_loc hM (by rw [ht]; show k ≠ 0; omega) hlo) hC hR
/-! new cells -/
theorem z_ad_new {H : Heap} (h : z_Mo G M H) : z_ad G M.2.2.2.2.1 = H.size := by
  rw [z_ad_ge h.1.2]
  have := h.1.1
  have := h.1.2
  omega
theorem z_Mo.new {H H' : Heap} {t : Nat × Nat} {n : Nat} (h : z_Mo G M H) (hz : H'.size = H.size + 1) (ho : ∀ q : Nat, q < H.size → H'[q]? = H[q]?) (hc : z_cell G (z_nw M t n) M.2.2.2.2.1 H') : z_Mo G (z_nw M t n) H' := by
  obtain ⟨⟨q1, q1b⟩, q2, q3, q4⟩ := id h
  refine ⟨⟨?_, ?_⟩, fun q hq => ?_, fun b hb => ?_, fun b => ?_⟩
  · show H'.size + 2 = z_b0 G + (M.2.2.2.2.1 + 1); omega
  · show 2 ≤ M.2.2.2.2.1 + 1; omega
  · rw [ho q (by omega)]; exact q2 q hq
  · show 2 ≤ b ∧ b < M.2.2.2.2.1 + 1
    by_cases e : b = M.2.2.2.2.1
    · omega
    · have hb2 : ((z_nw M t n).2.2.2.1 b).1 = (M.2.2.2.1 b).1 := by show (if _ then _ else _ : Nat × Nat).1 = _; rw [if_neg e]
      rw [hb2] at hb
      have := q3 b hb
      omega
  · by_cases e : b = M.2.2.2.2.1
    · rw [e]; exact hc
    · refine (q4 b).same (fun j => if_neg e) (fun j => if_neg e) (fun j => if_neg e) (if_neg e) fun hb => ho _ ?_
      have := q3 b hb
      rw [z_ad_ge this.1]
      omega
theorem s_new {idx ci : Nat} {r : vw_C} (hd : decode (z_mc mid) pc = .ok (.new idx, 3)) (hc : z_cls[ci]? = some r) (hw : Cond.classLink (z_my mid).cls idx r.1 ∈ z_tb) (hrm : z_rmk (z_rm mid) z0 M 1 r.2.2) (h : z_W l G mid z0 Rt (pc + 3) L (.ref M.2.2.2.2.1 :: st) (z_nw M (1, ci) r.2.2)) : z_W l G mid z0 Rt pc L st M := by
  intro p e s m args below meth c H locs cells slots ls Z hS hN hM hl hlo hC hR
  obtain ⟨⟨hx, hb⟩, hml, hr, hts, hown, hlk, hnm⟩ := id hS
  obtain ⟨hin, hnames, ⟨y, hy, hpd⟩, hini, hins⟩ := z_clsok ci r hc
  have hKn := hN.1 ci _ hc
  obtain ⟨r1, r2⟩ := hrm
  obtain ⟨⟨c1, c2⟩, c3, c4⟩ := hC
  refine W.newcK hx hb hown (hts _ hw) (hts _ hins) (hts _ hini) rfl hd (by omega) (by omega) hKn.2.1 rfl fun H1 kC hkC e1 z1 o1 => ?_
  have e9 : (F0 m (pc + 3) ls (Value.ref H.size :: st.map (z_em G))) = F0 m (pc + 3) ls ((Value.ref M.2.2.2.2.1 :: st).map (z_em G)) := by
    show F0 _ _ _ _ = F0 m (pc + 3) ls (Value.ref (z_ad G M.2.2.2.2.1) :: st.map (z_em G))
    rw [z_ad_new hM]
  refine W.eq e9 (h p e s m args below meth c H1 locs (cells + 1) (slots + r.2.2) ls Z hS hN (hM.new z1 o1 ?_) hl hlo ⟨⟨by show _ + 1 = _; omega, by show _ + r.2.2 = _; omega⟩, by omega, by omega⟩ hR)
  unfold z_cell
  have ht : (z_nw M (1, ci) r.2.2).2.2.2.1 M.2.2.2.2.1 = (1, ci) := if_pos rfl
  rw [ht, z_ad_new hM]
  refine ⟨r, hc, (u_born y hts hin hKn hkC e1 hpd).to fun k hk => ?_⟩
  show defaultValue (y k) = _
  have : z_fk ci k = z_kd (y k) := by unfold z_fk; rw [hy]
  rw [show (1, ci).2 = ci from rfl, this]
  have hz : (z_nw M (1, ci) r.2.2).1 M.2.2.2.2.1 k = 0 ∧ (z_nw M (1, ci) r.2.2).2.1 M.2.2.2.2.1 k = none ∧ (z_nw M (1, ci) r.2.2).2.2.1 M.2.2.2.2.1 k = 0 := ⟨if_pos rfl, if_pos rfl, if_pos rfl⟩
  generalize z_nw M (1, ci) r.2.2 = M2 at hz
  have hok : y k ≠ .float ∧ y k ≠ .double := by
    have h9 : ∀ (ci : Nat) (r : vw_C) (y : Nat → FieldType), z_cls[ci]? = some r → z_tys[ci]? = some y → ∀ k, k < r.2.2 → y k ≠ .float ∧ y k ≠ .double := by
      intro ci r y h1 h2
      match ci, h1, h2 with
      | 0, h1, h2 => cases h1; cases h2; decide
      | 1, h1, h2 => cases h1; cases h2; decide
      | 2, h1, h2 => cases h1; cases h2; decide
      | 3, h1, h2 => cases h1; cases h2; decide
      | 4, h1, h2 => cases h1; cases h2; decide
      | 5, h1, h2 => cases h1; cases h2; decide
      | 6, h1, h2 => cases h1; cases h2; decide
      | 7, h1, h2 => cases h1; cases h2; decide +kernel
      | n + 8, h1, h2 => simp [z_cls] at h1
    exact h9 ci r y hc hy k hk
  cases hyk : y k with
  | float => exact absurd hyk hok.1
  | double => exact absurd hyk hok.2
  | long => show Value.long 0 = Value.long (M2.2.2.1 _ _); rw [hz.2.2]
  | array t => show Value.null = z_em G (va_rf (M2.2.1 _ _)); rw [hz.2.1]; rfl
  | object t => show Value.null = z_em G (va_rf (M2.2.1 _ _)); rw [hz.2.1]; rfl
  | _ => show Value.int 0 = Value.int (M2.1 _ _); rw [hz.1]
theorem s_newaP {n : Int32} {at0 : ArrayType} {k : Nat} (hd : decode (z_mc mid) pc = .ok (.newarray at0, 2)) (hk : (at0 = .int ∧ k = 2) ∨ (at0 = .boolean ∧ k = 3)) (hrm : z_rmk (z_rm mid) z0 M 1 (z_ix n)) (hn : ¬ n < 0) (hsm : z_ix n ≤ 65536) (h : z_W l G mid z0 Rt (pc + 2) L (.ref M.2.2.2.2.1 :: st) (z_nw M (k, z_ix n) (z_ix n))) : z_W l G mid z0 Rt pc L (.int n :: st) M := by
  intro p e s m args below meth c H locs cells slots ls Z hS hN hM hl hlo hC hR
  obtain ⟨⟨hx, hb⟩, hml, hr, hts, hown, hlk, hnm⟩ := id hS
  obtain ⟨r1, r2⟩ := hrm
  obtain ⟨⟨c1, c2⟩, c3, c4⟩ := hC
  have hk2 : k = 2 ∨ k = 3 := by rcases hk with h | h <;> omega
  have harr : (Cond.arrayClass (newarray.typeOf at0)).before args s = true := by
    rcases hk with ⟨rfl, -⟩ | ⟨rfl, -⟩
    · exact hts _ z_over_in.2.1
    · exact hts _ z_over_in.2.2
  have hby : z_ix n * componentBytes (newarray.typeOf at0) ≤ 536870912 := by
    rcases hk with ⟨rfl, -⟩ | ⟨rfl, -⟩
    · show z_ix n * 4 ≤ _; omega
    · show z_ix n * 1 ≤ _; omega
  refine va_newaK hx hb harr rfl hd rfl hn rfl hby (by omega) (by show slots + z_ix n ≤ _; omega) rfl fun H1 cA e1 z1 o1 hAr hNm => ?_
  have hcA : cA = G.2.2.2.1 k := by
    rcases hk with ⟨rfl, rfl⟩ | ⟨rfl, rfl⟩
    · exact Option.some.inj (hNm.symm.trans (hN.2.1 2 (by omega) (by omega)).2)
    · exact Option.some.inj (hNm.symm.trans (hN.2.1 3 (by omega) (by omega)).2)
  have e9 : (F0 m (pc + 2) ls (Value.ref H.size :: st.map (z_em G))) = F0 m (pc + 2) ls ((Value.ref M.2.2.2.2.1 :: st).map (z_em G)) := by
    show F0 _ _ _ _ = F0 m (pc + 2) ls (Value.ref (z_ad G M.2.2.2.2.1) :: st.map (z_em G))
    rw [z_ad_new hM]
  refine W.eq e9 (h p e s m args below meth c H1 locs (cells + 1) (slots + z_ix n) ls Z hS hN (hM.new z1 o1 ?_) hl hlo ⟨⟨by show _ + 1 = _; omega, by show _ + z_ix n = _; omega⟩, by omega, by omega⟩ hR)
  unfold z_cell
  have ht : (z_nw M (k, z_ix n) (z_ix n)).2.2.2.1 M.2.2.2.2.1 = (k, z_ix n) := if_pos rfl
  rw [ht, z_ad_new hM]
  have hz : ∀ j, (z_nw M (k, z_ix n) (z_ix n)).1 M.2.2.2.2.1 j = 0 := fun j => if_pos rfl
  generalize z_nw M (k, z_ix n) (z_ix n) = M2 at hz
  have e2 : (fun j => Value.int (M2.1 M.2.2.2.2.1 j)) = fun _ => Value.int 0 := funext fun j => by rw [hz]
  subst hcA
  rcases hk with ⟨rfl, rfl⟩ | ⟨rfl, rfl⟩
  · show H1[_]? = _; rw [e2]; exact e1
  · show H1[_]? = _; rw [e2]; exact e1
theorem s_newaR {n : Int32} {idx k : Nat} (hd : decode (z_mc mid) pc = .ok (.anewarray idx, 3)) (hk : 4 ≤ k ∧ k ≤ 6) {r : vw_C} (hc : z_cls[z_ac k]? = some r) (hw : Cond.classLink (z_my mid).cls idx r.1 ∈ z_tb) (hrm : z_rmk (z_rm mid) z0 M 1 (z_ix n)) (hn : ¬ n < 0) (hsm : z_ix n ≤ 65536) (h : z_W l G mid z0 Rt (pc + 3) L (.ref M.2.2.2.2.1 :: st) (z_nw M (k, z_ix n) (z_ix n))) : z_W l G mid z0 Rt pc L (.int n :: st) M := by
  intro p e s m args below meth c H locs cells slots ls Z hS hN hM hl hlo hC hR
  obtain ⟨⟨hx, hb⟩, hml, hr, hts, hown, hlk, hnm⟩ := id hS
  obtain ⟨r1, r2⟩ := hrm
  obtain ⟨⟨c1, c2⟩, c3, c4⟩ := hC
  obtain ⟨r', hr', hro⟩ := z_acOk hk
  obtain rfl : r' = r := Option.some.inj (hr'.symm.trans hc)
  have hra := (hN.2.1 k (by omega) hk.2).2
  rw [hro] at hra
  obtain ⟨kA0, comp0, k1, k2, k3, k4⟩ := hra
  have hover : va_AO r'.1 s := by
    obtain ⟨-, -, -, -, -, -, ha, hb', hc'⟩ := hN
    obtain ⟨h1, h2⟩ := hk
    rcases (show k = 4 ∨ k = 5 ∨ k = 6 by omega) with rfl | rfl | rfl
    · cases hc; exact ha
    · cases hc; exact hb'
    · cases hc; exact hc'
  refine W.anew hx hb hown (hts _ hw) (va_AO.use hover) rfl hd rfl hn (by show z_ix n * 4 ≤ _; omega) (by omega) (by show slots + z_ix n ≤ _; omega) fun cA kA comp f1 f2 f3 f4 => ?_
  have hcA : cA = G.2.2.2.1 k := Option.some.inj (f1.symm.trans k4)
  generalize hH1 : H.push ({ cls := cA, slots := Array.replicate n.toNatClampNeg .null, vm := .none } : Cell) = H1
  have z1 : H1.size = H.size + 1 := by rw [← hH1, Array.size_push]
  have e1 : H1[H.size]? = some (arrV cA n.toNatClampNeg (fun _ => .null)) := by rw [← hH1, Array.getElem?_push_size, ← arrV_new]
  have o1 : ∀ q : Nat, q < H.size → H1[q]? = H[q]? := fun q hq => by rw [← hH1, Array.getElem?_push, if_neg (Nat.ne_of_lt hq)]
  have e9 : (F0 m (pc + 3) ls (Value.ref H.size :: st.map (z_em G))) = F0 m (pc + 3) ls ((Value.ref M.2.2.2.2.1 :: st).map (z_em G)) := by
    show F0 _ _ _ _ = F0 m (pc + 3) ls (Value.ref (z_ad G M.2.2.2.2.1) :: st.map (z_em G))
    rw [z_ad_new hM]
  refine W.eq e9 (h p e s m args below meth c H1 locs (cells + 1) (slots + z_ix n) ls Z hS hN (hM.new z1 o1 ?_) hl hlo ⟨⟨by show _ + 1 = _; omega, by show _ + z_ix n = _; omega⟩, by omega, by omega⟩ hR)
  unfold z_cell
  have ht : (z_nw M (k, z_ix n) (z_ix n)).2.2.2.1 M.2.2.2.2.1 = (k, z_ix n) := if_pos rfl
  rw [ht, z_ad_new hM]
  have hz : ∀ j, (z_nw M (k, z_ix n) (z_ix n)).2.1 M.2.2.2.2.1 j = none := fun j => if_pos rfl
  generalize z_nw M (k, z_ix n) (z_ix n) = M2 at hz
  have e2 : (fun j => z_em G (va_rf (M2.2.1 M.2.2.2.2.1 j))) = fun _ => Value.null := funext fun j => by rw [hz]; rfl
  subst hcA
  match k, hk, e1 with
  | k + 4, _, e1 => show H1[_]? = _; rw [e2]; exact e1
/-! the class's static array, the law's script -/
theorem s_gets {idx : Nat} (hd : decode (z_mc mid) pc = .ok (.getstatic idx, 3)) (hw : Cond.fieldLink (z_my mid).cls idx "MeshParents" "FACTORIAL" "[I" ∈ z_tb) (h : z_W l G mid z0 Rt (pc + 3) L (.ref 0 :: st) M) : z_W l G mid z0 Rt pc L st M := by
  intro p e s m args below meth c H locs cells slots ls Z hS hN hM hl hlo hC hR
  obtain ⟨⟨hx, hb⟩, hml, hr, hts, hown, hlk, hnm⟩ := id hS
  obtain ⟨cf, kf, fi, f, a, cell, h1, h2, h3, h4, h5, h6, h7, h8⟩ := id hN.2.2.1
  have ha : a < z_b0 G := Nat.not_le.mp h8
  refine W.gets hx hb hown (hts _ hw) h1 h2 h3 h4 (by rw [hM.2.1 a ha]; exact h5) (fun q => by rw [q] at h6; cases h6) h7 rfl hd ?_
  exact h p e s m args below meth c H locs cells slots ls Z hS hN hM hl hlo hC hR
theorem s_ialdF {i : Int32} (hd : decode (z_mc mid) pc = .ok (.iaload, 1)) (hi : vp_in i 9) (h : z_W l G mid z0 Rt (pc + 1) L (.int (z_fct (z_ix i)) :: st) M) : z_W l G mid z0 Rt pc L (.int i :: .ref 0 :: st) M := by
  intro p e s m args below meth c H locs cells slots ls Z hS hN hM hl hlo hC hR
  obtain ⟨cell, h1, h2, h3, h4, h5, h6, h7⟩ := id hN.2.2.2.1
  have ha : G.1.2.1 < z_b0 G := Nat.not_le.mp h7
  have hlt := z_in_lt hi
  exact W.iald (v := .int (z_fct (z_ix i))) hS.1.1 hS.1.2 (a := z_ad G 0) (by show H[G.1.2.1]? = _; rw [hM.2.1 _ ha]; exact h1) h2 h3 (fun q => hi (q.imp id (fun q => Nat.le_trans h4 q))) (h6 _ hlt) rfl rfl hd (h p e s m args below meth c H locs cells slots ls Z hS hN hM hl hlo hC hR)
theorem s_ialdX {i : Int32} (hd : decode (z_mc mid) pc = .ok (.iaload, 1)) (hi : vp_in i G.2.1.1) (h : z_W l G mid z0 Rt (pc + 1) L (.int (G.2.1.2 (z_ix i)) :: st) M) : z_W l G mid z0 Rt pc L (.int i :: .ref 1 :: st) M := by
  intro p e s m args below meth c H locs cells slots ls Z hS hN hM hl hlo hC hR
  obtain ⟨⟨cell, h1, h2, h3, h4, h5⟩, ha, -, -⟩ := id hN.2.2.2.2.1
  have hlt := z_in_lt hi
  exact W.iald (v := .int (G.2.1.2 (z_ix i))) hS.1.1 hS.1.2 (a := z_ad G 1) (by show H[G.1.2.2]? = _; rw [hM.2.1 _ ha]; exact h1) h2 h3 (by rw [h4]; exact hi) (h5 _ hlt) rfl rfl hd (h p e s m args below meth c H locs cells slots ls Z hS hN hM hl hlo hC hR)
theorem s_alen (hd : decode (z_mc mid) pc = .ok (.arraylength, 1)) (h : z_W l G mid z0 Rt (pc + 1) L (.int (nI G.2.1.1) :: st) M) : z_W l G mid z0 Rt pc L (.ref 1 :: st) M := by
  intro p e s m args below meth c H locs cells slots ls Z hS hN hM hl hlo hC hR
  obtain ⟨⟨cell, h1, h2, h3, h4, h5⟩, ha, -, -⟩ := id hN.2.2.2.2.1
  exact W.alen (n := nI G.2.1.1) hS.1.1 hS.1.2 (a := z_ad G 1) (by show H[G.1.2.2]? = _; rw [hM.2.1 _ ha]; exact h1) h2 (by rw [h4]; rfl) rfl rfl hd (h p e s m args below meth c H locs cells slots ls Z hS hN hM hl hlo hC hR)
end
end
section
/-! calls -/
theorem z_pop_spec {k : List Value → List Value → Prop} : ∀ (n : Nat) (acc st : List Value), z_pop n k acc st → ∃ as rest, st = as.reverse ++ rest ∧ as.length = n ∧ k (as ++ acc) rest
  | 0, acc, st, h => ⟨[], st, rfl, rfl, h⟩
  | n + 1, acc, [], h => by simp [z_pop] at h
  | n + 1, acc, v :: st, h => by
    obtain ⟨as, rest, h1, h2, h3⟩ := z_pop_spec n (v :: acc) st h
    refine ⟨as ++ [v], rest, ?_, by simp [h2], by simpa using h3⟩
    rw [h1]; simp
theorem z_sh_sum {G : ZG} {st : List Value} (h : z_sh st) : ((st.map (z_em G)).map fun v => v.category).sum ≤ 8 := by
  have c : ∀ v : Value, v.category ≤ 2 := fun v => by rcases lv_cat v with h | h <;> omega
  match st, h with
  | [], _ => simp
  | [a], _ => have := c (z_em G a); simp; omega
  | [a, b], _ => have := c (z_em G a); have := c (z_em G b); simp; omega
  | [a, b, d], _ => have := c (z_em G a); have := c (z_em G b); have := c (z_em G d); simp; omega
  | [a, b, d, f], _ => have := c (z_em G a); have := c (z_em G b); have := c (z_em G d); have := c (z_em G f); simp; omega
theorem z_good : ∀ w ∈ z_tb, goodWord w = true := fun w h => (List.mem_filter.mp h).2
theorem z_ws_good {mid : Nat} (h : mid < 179) : GoodIn z_tb (z_ws mid) := by
  intro w hw
  have hm : w ∈ z_tb := by
    rcases List.mem_cons.mp hw with rfl | hw
    · exact z_cw_mem h
    · exact hw
  exact ⟨hm, good_of_word (z_good w hm)⟩
theorem z_mk_at {i : Nat} (h : i < 179) : z_mk (z_my i) ((z_mp[i]?).getD (0, 0, 0, 3)) = true := List.all_eq_true.mp z_mk_all i (List.mem_range.mpr h)
def z_okc (mid a : Nat) : Bool := decide (a < 179) && (decide ((z_rm a).frames + 1 ≤ (z_rm mid).frames) && decide (8 + (z_mL a + 11) + (z_rm a).locals ≤ (z_rm mid).locals))
def z_npar (a : Nat) : Option Nat := (parseMethodDescriptor (z_my a).desc).map (fun d => d.parameters.length)
def z_kindOf (a : Nat) : Nat := ((z_mp[a]?).getD (0, 0, 0, 3)).2.2.2
section
variable {l : Launch} {G : ZG} {mid a : Nat} {z0 : Nat × Nat} {Rt : ZR} {pc len : Nat} {L : ZL} {st : List Value} {M : ZM}
/-- behind a call that has run -/
theorem z_goes {p : Program} {e : Env} {s : State} {m : MethodId} {args : Array Value} {below : List Frame} {meth : Method} {c : Code} {H : Heap} {locs : List Loc} {cells slots : Nat} {ls : Array Slot} {Z : State → Prop} {S rest : List Value} {Q : ZR} {arr : Array Value}
    (hr : va_Run p l e (z_rm mid) s m args below meth c H locs cells slots (z_rm a).cells (z_rm a).slots (F0 m pc ls S) (rest.map (z_em G)) (z_Qc G a M Q arr) (fun q => z_b0 G ≤ q))
    (hS : z_Std mid p s m args meth c) (hN : z_Kn G s) (hl : z_lv G (z_mL mid) ls L) (hlo : ∀ q ∈ locs, z_b0 G ≤ q.base) (hC : z_Cn mid z0 M cells slots) (hrm : cells + (z_rm a).cells ≤ (z_rm mid).cells ∧ slots + (z_rm a).slots ≤ (z_rm mid).slots) (hR : z_Rets l G mid z0 Rt p e s m args below meth c Z)
    (hK : ∀ r M', Q r M' → z_W l G mid z0 Rt (pc + 3) L (r.toList ++ rest) M') : W p l e (z_rm mid) s m args below meth c H locs cells slots Z (F0 m pc ls S) := by
  intro T hT X
  obtain ⟨v, st₀, t, T', L1, h0, X', hL, e1, e2, ⟨r, M', ⟨ho, hQ, hM'⟩, ⟨q1, q2⟩, hnr⟩, hgo⟩ := hr T hT X
  have hv : v = r := Outcome.returned.inj ho
  subst hv
  obtain ⟨⟨c1, c2⟩, c3, c4⟩ := hC
  obtain ⟨t2, a1, b1⟩ := hK v M' hQ p e s m args below meth c T'.heap (locs ++ L1) (cells + (z_rm a).cells) (slots + (z_rm a).slots) ls Z hS hN (by rw [e1]; exact hM') hl (fun q hq => by
    rcases List.mem_append.mp hq with h | h
    · exact hlo q h
    · exact hL q h) ⟨⟨by omega, by omega⟩, hrm.1, hrm.2⟩ hR T' rfl X'
  refine ⟨t2, hgo t2 ?_, b1⟩
  have e9 : (v.toList ++ rest).map (z_em G) = v.toList ++ rest.map (z_em G) := by
    cases v with
    | none => rfl
    | some w => cases w <;> first | rfl | exact absurd rfl (hnr _)
  rw [e9] at a1
  exact a1
theorem z_blind {arr : List Value} {M : ZM} : FrameBlind (fun v U => v = (arr.map (z_em G)).toArray ∧ z_Mo G M U.heap ∧ z_Kn G U) := by
  intro v U g mk h
  exact ⟨h.1, h.2.1, h.2.2.same rfl⟩
theorem z_callB {s : State} {args : Array Value} {own : String} {idx n : Nat} (hts : ∀ w ∈ z_tb, w.before args s = true) (ha : a < 179) (hl : Cond.methodLink own idx (z_my a) ∈ z_tb) (hnp : z_npar a = some n) (hfr : (z_rm a).frames + 1 ≤ (z_rm mid).frames ∧ 8 + (z_mL a + 11) + (z_rm a).locals ≤ (z_rm mid).locals) :
    CallB (z_rm mid) s args own idx (z_my a) (z_mc a) (z_mL a) (z_mr a) (z_ws a) (z_rm a) (z_rm a).cells (z_rm a).slots n := by
  have hmk := z_mk_at ha
  simp only [z_mk, Bool.and_eq_true, decide_eq_true_eq] at hmk
  exact callB_of n hts (z_ws_good ha) rfl rfl rfl (hts _ (z_at_mem hmk.1)) (hts _ hl) ⟨hmk.2.1.1, hmk.2.1.2, hnp⟩ hfr
theorem s_callV {idx n ci : Nat} (hd : decode (z_mc mid) pc = .ok (.invokevirtual idx, 3)) (hok : z_okc mid a = true) (hl : Cond.methodLink (z_my mid).cls idx (z_my a) ∈ z_tb) (hnp : z_npar a = some n) (hk : z_kindOf a = 2) (h0 : (z_rm a).cells = 0 ∧ (z_rm a).slots = 0)
    (hcl : ∃ r : vw_C, z_cls[ci]? = some r ∧ r.1 = (z_my a).cls) {K : ZK} (hK : ∀ L st M, K L st M → z_W l G mid z0 Rt (pc + 3) L st M) (h : o_call (z_Ok l G) a (n + 1) (ci + 1) K L st M) : z_W l G mid z0 Rt pc L st M := by
  obtain ⟨as, rest, rfl, hlen, ⟨hrc, hsh⟩, hM⟩ := z_pop_spec _ _ _ h
  rw [List.append_nil] at hrc hM
  intro p e s m args below meth c H locs cells slots ls Z hS hN hMo hlv hlo hC hR
  obtain ⟨⟨hx, hb⟩, hml, hr, hts, hown, hlk, hnm⟩ := id hS
  simp only [z_okc, Bool.and_eq_true, decide_eq_true_eq] at hok
  obtain ⟨ha, hfr⟩ := hok
  match as, hlen, hrc, hM with
  | .ref o :: As, hlen, hrc, hM =>
    have hmk := z_mk_at ha
    simp only [z_mk, Bool.and_eq_true, decide_eq_true_eq] at hmk
    have hk' : ((z_mp[a]?).getD (0, 0, 0, 3)).2.2.2 = 2 := hk
    rw [hk'] at hmk
    simp only [Bool.and_eq_true] at hmk
    obtain ⟨r, hr1, hr2⟩ := hcl
    obtain ⟨r', hr', cell, q1, q2, q3, q4⟩ := hMo.obj (show M.2.2.2.1 o = (1, ci) from hrc)
    have e9 : ((Value.ref o :: As).reverse ++ rest).map (z_em G) = (As.map (z_em G)).reverse ++ .ref (z_ad G o) :: rest.map (z_em G) := by
      simp [z_em]
    rw [e9]
    refine z_goes (rest := rest) (Q := z_af K L rest) (M := M) (a := a) (arr := (Value.ref (z_ad G o) :: As.map (z_em G)).toArray) ?_ hS hN hlv hlo hC ⟨by have := hC.2.1; omega, by have := hC.2.2; omega⟩ hR (fun r M' hq => hK _ _ _ hq)
    exact va_runV (C := (z_my a).cls) (b := z_ad G o) (As := As.map (z_em G)) (n := n) (Ts := z_tb) ⟨hx, hb, hml, hown, hts⟩ hM ⟨z_callB hts ha hl hnp hfr, hts _ (z_at_mem hmk.2.2.1), hts _ (z_at_mem hmk.2.2.2)⟩
      ⟨z_blind, ⟨cell, q1, by rw [q3]; rfl, by rw [q2, ← hr2]; exact (hN.1 ci r hr1).2.1⟩, fun U hU hW => ⟨by simp [z_em], by rw [hU]; exact hMo, hN.warm hW⟩⟩ rfl (by simp at hlen; simp [hlen]) hlv.1.1 rfl (lv_room (z_sh_sum hsh)) hd ⟨by have := hC.2.1; omega, by have := hC.2.2; omega⟩
theorem s_callS {idx n : Nat} (hd : decode (z_mc mid) pc = .ok (.invokestatic idx, 3)) (hok : z_okc mid a = true) (hl : Cond.methodLink (z_my mid).cls idx (z_my a) ∈ z_tb) (hnp : z_npar a = some n) (hk : z_kindOf a = 0) (h0 : (z_rm a).cells = 0 ∧ (z_rm a).slots = 0)
    {K : ZK} (hK : ∀ L st M, K L st M → z_W l G mid z0 Rt (pc + 3) L st M) (h : o_call (z_Ok l G) a n 0 K L st M) : z_W l G mid z0 Rt pc L st M := by
  obtain ⟨as, rest, rfl, hlen, ⟨hrc, hsh⟩, hM⟩ := z_pop_spec _ _ _ h
  rw [List.append_nil] at hrc hM
  intro p e s m args below meth c H locs cells slots ls Z hS hN hMo hlv hlo hC hR
  obtain ⟨⟨hx, hb⟩, hml, hr, hts, hown, hlk, hnm⟩ := id hS
  simp only [z_okc, Bool.and_eq_true, decide_eq_true_eq] at hok
  obtain ⟨ha, hfr⟩ := hok
  have hmk := z_mk_at ha
  simp only [z_mk, Bool.and_eq_true, decide_eq_true_eq] at hmk
  have hk' : ((z_mp[a]?).getD (0, 0, 0, 3)).2.2.2 = 0 := hk
  rw [hk'] at hmk
  have e9 : (as.reverse ++ rest).map (z_em G) = (as.map (z_em G)).reverse ++ rest.map (z_em G) := by simp
  rw [e9]
  refine z_goes (rest := rest) (Q := z_af K L rest) (M := M) (a := a) (arr := (as.map (z_em G)).toArray) ?_ hS hN hlv hlo hC ⟨by have := hC.2.1; omega, by have := hC.2.2; omega⟩ hR (fun r M' hq => hK _ _ _ hq)
  exact va_runS (As := as.map (z_em G)) (n := n) (Ts := z_tb) ⟨hx, hb, hml, hown, hts⟩ hM ⟨z_callB hts ha hl hnp hfr, hts _ (z_at_mem hmk.2.2)⟩
    ⟨z_blind, fun U hU hW => ⟨rfl, by rw [hU]; exact hMo, hN.warm hW⟩⟩ rfl (by simp [hlen]) hlv.1.1 rfl (lv_room (z_sh_sum hsh)) hd ⟨by have := hC.2.1; omega, by have := hC.2.2; omega⟩
theorem s_callI {idx n c9 : Nat} (hd : decode (z_mc mid) pc = .ok (.invokespecial idx, 3)) (hok : z_okc mid a = true) (hl : Cond.methodLink (z_my mid).cls idx (z_my a) ∈ z_tb ∨ ∃ host, ((z_my mid).cls, idx, z_my a, host) ∈ z_nest) (hnp : z_npar a = some n) (hk : z_kindOf a = 1) (hret : z_mr a = none)
    {K : ZK} (hK : ∀ L st M, K L st M → z_W l G mid z0 Rt (pc + 3) L st M) (h : o_callN (z_Ok l G) (z_rm mid) z0 a (n + 1) (c9 + 1) K L st M) : z_W l G mid z0 Rt pc L st M := by
  obtain ⟨⟨rm1, rm2⟩, h⟩ := h
  obtain ⟨as, rest, rfl, hlen, ⟨hrc, hsh⟩, hM⟩ := z_pop_spec _ _ _ h
  rw [List.append_nil] at hrc hM
  intro p e s m args below meth c H locs cells slots ls Z hS hN hMo hlv hlo hC hR
  obtain ⟨⟨hx, hb⟩, hml, hr, hts, hown, hlk, hnm⟩ := id hS
  simp only [z_okc, Bool.and_eq_true, decide_eq_true_eq] at hok
  obtain ⟨ha, hfr⟩ := hok
  have hroom : cells + (z_rm a).cells ≤ (z_rm mid).cells ∧ slots + (z_rm a).slots ≤ (z_rm mid).slots := by
    obtain ⟨⟨c1, c2⟩, c3, c4⟩ := hC
    constructor <;> omega
  match as, hlen, hrc, hM with
  | .ref o :: As, hlen, hrc, hM =>
    have hmk := z_mk_at ha
    simp only [z_mk, Bool.and_eq_true, decide_eq_true_eq] at hmk
    have hk' : ((z_mp[a]?).getD (0, 0, 0, 3)).2.2.2 = 1 := hk
    rw [hk'] at hmk
    simp only [Bool.and_eq_true, decide_eq_true_eq] at hmk
    have e9 : ((Value.ref o :: As).reverse ++ rest).map (z_em G) = (As.map (z_em G)).reverse ++ .ref (z_ad G o) :: rest.map (z_em G) := by
      simp [z_em]
    rw [e9]
    refine z_goes (rest := rest) (Q := z_af K L rest) (M := M) (a := a) (arr := (Value.ref (z_ad G o) :: As.map (z_em G)).toArray) ?_ hS hN hlv hlo hC hroom hR (fun r M' hq => hK _ _ _ hq)
    have hp : PreS s H (fun v U => v = ((Value.ref o :: As).map (z_em G)).toArray ∧ z_Mo G M U.heap ∧ z_Kn G U) (.ref (z_ad G o) :: As.map (z_em G)) := ⟨z_blind, fun U hU hW => ⟨by simp [z_em], by rw [hU]; exact hMo, hN.warm hW⟩⟩
    rcases hl with hl | ⟨host, hl⟩
    · have cb := z_callB (s := s) (args := args) (own := (z_my mid).cls) hts ha hl hnp hfr
      rw [hret] at cb
      exact va_runI (b := z_ad G o) (As := As.map (z_em G)) (n := n) (Ts := z_tb) ⟨hx, hb, hml, hown, hts⟩ hM ⟨cb, hmk.2.2.2, hts _ (z_at_mem hmk.2.2.1)⟩ hp rfl (by simp at hlen; simp [hlen]) hlv.1.1 rfl (lv_room (z_sh_sum hsh)) hd hroom
    · have hcw := z_cw_mem ha
      unfold z_cw at hcw
      have cb := va_cnB (own := (z_my mid).cls) (host := host) (index := idx) (R := z_rm mid) (s := s) (args := args) (y := z_my a) (bytes := z_mc a) (maxL := z_mL a) (ret := z_mr a) (ws := z_ws a) (rm := z_rm a) n hts (z_ws_good ha) rfl rfl rfl (hN.2.2.2.2.2.1 _ hl) (hts _ (z_at_mem hmk.1)) ⟨hmk.2.1.1, hmk.2.1.2, hnp⟩ hfr
      rw [hret] at cb
      exact va_runIN (b := z_ad G o) (As := As.map (z_em G)) (n := n) (Ts := z_tb) (host := host) ⟨hx, hb, hml, hown, hts⟩ hM ⟨cb, hmk.2.2.2, hts _ (z_at_mem hmk.2.2.1)⟩ hp rfl (by simp at hlen; simp [hlen]) hlv.1.1 rfl (lv_room (z_sh_sum hsh)) hd hroom
theorem s_obj {idx o : Nat} (hd : decode (z_mc mid) pc = .ok (.invokespecial idx, 3)) (hl : Cond.methodLink (z_my mid).cls idx objectInit ∈ z_tb) (hfr : 1 ≤ (z_rm mid).frames ∧ 20 ≤ (z_rm mid).locals) (hsh : z_sh st) (h : z_W l G mid z0 Rt (pc + 3) L st M) : z_W l G mid z0 Rt pc L (.ref o :: st) M := by
  intro p e s m args below meth c H locs cells slots ls Z hS hN hMo hlv hlo hC hR
  obtain ⟨⟨hx, hb⟩, hml, hr, hts, hown, hlk, hnm⟩ := id hS
  refine W.objInit hx hb hown (hts _ hl) (hts _ z_obj_in.1) (hts _ z_obj_in.2) rfl (by rw [hml]; exact hlv.1.1) rfl hd hfr.1 ?_ (W.eq rfl (h p e s m args below meth c H locs cells slots ls Z hS hN hMo hlv hlo hC hR))
  have := lv_room (m := m) (pc := pc) (ls := ls) (rest := (Value.ref o :: st).map (z_em G)) (z_sh_sum (G := G) hsh)
  have e8 : (F0 m pc ls ((Value.ref o :: st).map (z_em G))).monitorRoom = (F0 m pc ls ((Value.ref o :: st).map (z_em G))).monitorRoom := rfl
  omega
/-! a method's end, and its contract -/
theorem s_end {v : Option Value} (hrt : z_rt mid pc v) (h : Rt v M) : z_W l G mid z0 Rt pc L v.toList M := by
  intro p e s m args below meth c H locs cells slots ls Z hS hN hMo hlv hlo hC hR
  have e9 : v.toList.map (z_em G) = v.toList := by
    match v, hrt with
    | none, _ => rfl
    | some (.int x), _ => rfl
    | some (.long x), _ => rfl
  rw [e9]
  exact hR pc ls H locs cells slots v M hrt hMo h hlo hC
def z_en : Nat → List Value → ZL
  | 0, _ => []
  | n + 1, [] => none :: z_en n []
  | n + 2, .long x :: t => some (.long x) :: none :: z_en n t
  | n + 1, .int x :: t => some (.int x) :: z_en n t
  | n + 1, .ref x :: t => some (.ref x) :: z_en n t
  | _, _ => []
def z_wd : List Value → Nat
  | [] => 0
  | .long _ :: t => z_wd t + 2
  | .double _ :: t => z_wd t + 2
  | _ :: t => z_wd t + 1
theorem z_wd_eq : ∀ as : List Value, (lg_sl (as.map (z_em G))).length = z_wd as
  | [] => rfl
  | v :: t => by
    have ih := z_wd_eq t
    have e : lg_sl ((v :: t).map (z_em G)) = (if (z_em G v).category = 2 then [Slot.val (z_em G v), .second] else [Slot.val (z_em G v)]) ++ lg_sl (t.map (z_em G)) := rfl
    rw [e, List.length_append, ih]
    cases v <;> simp [z_em, z_wd, Value.category] <;> omega
theorem z_en_nil : ∀ (n k : Nat) (w : Value), z_lg k (z_en n []) = some w → False
  | 0, k, w, h => by simp [z_en, z_lg] at h
  | n + 1, 0, w, h => by simp [z_en, z_lg] at h
  | n + 1, k + 1, w, h => z_en_nil n k w (by simpa [z_en, z_lg] using h)
theorem z_en_mem : ∀ (n : Nat) (as : List Value) (k i : Nat) (w : Value), z_lg k (z_en n as) = some w → (i + k, z_em G w) ∈ lv_args i (as.map (z_em G))
  | n, [], k, i, w, h => (z_en_nil n k w h).elim
  | 0, _ :: _, k, i, w, h => by simp [z_en, z_lg] at h
  | 1, .long x :: t, k, i, w, h => by simp [z_en, z_lg] at h
  | n + 2, .long x :: t, 0, i, w, h => by simp only [z_en, z_lg] at h; cases h; exact List.mem_cons_self
  | n + 2, .long x :: t, 1, i, w, h => by simp [z_en, z_lg] at h
  | n + 2, .long x :: t, k + 2, i, w, h => by
    have := z_en_mem n t k (i + 2) w (by simpa [z_en, z_lg] using h)
    rw [show i + (k + 2) = i + 2 + k by omega]
    exact List.mem_cons_of_mem _ this
  | n + 1, .int x :: t, 0, i, w, h => by simp only [z_en, z_lg] at h; cases h; exact List.mem_cons_self
  | n + 1, .int x :: t, k + 1, i, w, h => by
    have := z_en_mem n t k (i + 1) w (by simpa [z_en, z_lg] using h)
    rw [show i + (k + 1) = i + 1 + k by omega]
    exact List.mem_cons_of_mem _ this
  | n + 1, .ref x :: t, 0, i, w, h => by simp only [z_en, z_lg] at h; cases h; exact List.mem_cons_self
  | n + 1, .ref x :: t, k + 1, i, w, h => by
    have := z_en_mem n t k (i + 1) w (by simpa [z_en, z_lg] using h)
    rw [show i + (k + 1) = i + 1 + k by omega]
    exact List.mem_cons_of_mem _ this
  | n + 1, .null :: t, k, i, w, h => by simp [z_en, z_lg] at h
  | n + 1, .float x :: t, k, i, w, h => by simp [z_en, z_lg] at h
  | n + 1, .double x :: t, k, i, w, h => by simp [z_en, z_lg] at h
  | n + 1, .retAddr x :: t, k, i, w, h => by simp [z_en, z_lg] at h
/-- a method's contract out of its body -/
theorem z_ok_of {as : List Value} {Q : ZR} (hp : plainName (z_my mid).cls = true) (hw : z_wd as ≤ z_mL mid) (h : z_W l G mid (M.2.2.2.2.1, M.2.2.2.2.2) (fun v M' => Q v M' ∧ (M'.2.2.2.2.1 = M.2.2.2.2.1 + (z_rm mid).cells ∧ M'.2.2.2.2.2 = M.2.2.2.2.2 + (z_rm mid).slots)) 0 (z_en (z_mL mid) as) [] M) : z_Ok l G mid as M Q := by
  refine Met.ofW (cc := z_mc mid) (maxL := z_mL mid) (ret := z_mr mid) hp rfl ?_
  intro p e s m args below meth c s₁ B hml hv
  obtain ⟨rfl, hM, hN⟩ := hv
  have hts := atoms_spec (ws := z_ws mid) B.pre
  have hl := lv_entry (as.map (z_em G)) (n := z_mL mid) (by rw [z_wd_eq]; exact hw)
  rw [lg_entry_eq]
  have hS : z_Std mid p s m (as.map (z_em G)).toArray meth c := ⟨⟨B.exec, B.bytes⟩, hml, B.returns, fun w hw => hts w (List.mem_cons_of_mem _ hw), findClass_of_methodNamed B.named, B.notSynchronized, (name_of_methodNamed B.named B.method).1⟩
  refine h p e s m _ below meth c s.heap [] 0 0 _ _ hS hN hM ⟨⟨hl.1, hl.2.1⟩, fun k w hk => ?_⟩ (fun q hq => by cases hq) ⟨⟨rfl, rfl⟩, Nat.zero_le _, Nat.zero_le _⟩ ?_
  · have := hl.2.2 _ (z_en_mem (G := G) _ as k 0 w hk)
    rwa [Nat.zero_add] at this
  · intro pc ls H locs cells slots v M' hrt hM' hQ hlo hC
    refine W.widen hC.2.1 hC.2.2 ?_
    match v, hrt, hQ with
    | none, hrt, hQ => exact W.vret B.exec B.bytes (by rw [B.returns]; exact hrt.2) (fun t ht hW => ⟨none, M', ⟨rfl, hQ.1, by rw [ht]; exact hM'⟩, hQ.2, fun x q => by cases q⟩) hlo hrt.1 B.notSynchronized
    | some (.int x), ⟨h1, ty, h2, h3⟩, hQ => exact W.zret (ty := ty) B.exec B.bytes (by rw [B.returns]; exact h2) h3 (fun t ht hW => ⟨some (.int x), M', ⟨rfl, hQ.1, by rw [ht]; exact hM'⟩, hQ.2, fun x q => by cases q⟩) hlo h1 B.notSynchronized
    | some (.long x), hrt, hQ => exact W.lret B.exec B.bytes (by rw [B.returns]; exact hrt.2) (fun t ht hW => ⟨some (.long x), M', ⟨rfl, hQ.1, by rw [ht]; exact hM'⟩, hQ.2, fun x q => by cases q⟩) hlo hrt.1 B.notSynchronized
/-- the same, of a method that makes no cells: the memory's bounds stay -/
theorem z_okN {as : List Value} {Q : ZR} {mi : Nat → Nat → Int32} {mr : Nat → Nat → Option Nat} {ml : Nat → Nat → Int64} {T : (Nat → Nat × Nat) × Nat × Nat} (hp : plainName (z_my mid).cls = true) (hw : z_wd as ≤ z_mL mid) (h0 : (z_rm mid).cells = 0 ∧ (z_rm mid).slots = 0) (h : z_W l G mid (T.2.1, T.2.2) (fun v M' => Q v M' ∧ M'.2.2.2 = T) 0 (z_en (z_mL mid) as) [] (mi, mr, ml, T)) : z_Ok l G mid as (mi, mr, ml, T) Q := by
  refine z_ok_of hp hw ?_
  have e : (fun (v : Option Value) (M' : ZM) => Q v M' ∧ (M'.2.2.2.2.1 = T.2.1 + (z_rm mid).cells ∧ M'.2.2.2.2.2 = T.2.2 + (z_rm mid).slots)) = fun v M' => Q v M' ∧ (M'.2.2.2.2.1 = T.2.1 ∧ M'.2.2.2.2.2 = T.2.2) := by rw [h0.1, h0.2]; rfl
  show z_W l G mid (T.2.1, T.2.2) (fun v M' => Q v M' ∧ (M'.2.2.2.2.1 = T.2.1 + (z_rm mid).cells ∧ M'.2.2.2.2.2 = T.2.2 + (z_rm mid).slots)) 0 _ [] _
  rw [e]
  intro p e s m args below meth c H locs cells slots ls Z hS hN hM hl hlo hC hR
  refine h p e s m args below meth c H locs cells slots ls Z hS hN hM hl hlo hC ?_
  intro pc ls H locs cells slots v M' hrt hM' hQ hlo hC
  exact hR pc ls H locs cells slots v M' hrt hM' ⟨hQ.1, by rw [hQ.2]; exact ⟨rfl, rfl⟩⟩ hlo hC
end
end
section
/-! that a block's list of instructions is the bytecode's, and that the evaluator is right about it -/
def z_own (mid : Nat) : String := (z_my mid).cls
def z_i32 (n : Int) : Bool := decide (-2147483648 ≤ n) && decide (n < 2147483648)
def z_jmp (pc : Nat) (off : Int) (a : Nat) : Bool := decide ((pc : Int) + off = (a : Int))
def z_fdc (mid idx a b pl : Nat) : Bool := match z_cls[a]? with
  | some r => decide (b < r.2.2) && z_at pl (.fieldLink (z_own mid) idx (r.2.1 b).1 (r.2.1 b).2.1 (r.2.1 b).2.2.1)
  | none => false
def z_fin (mid a b : Nat) : Bool := match z_cls[a]? with
  | some r => (r.2.1 b).2.2.2 == false || (decide ((z_my mid).name = "<init>") && decide ((r.2.1 b).1 = z_own mid))
  | none => false
def z_cic (c a : Nat) : Bool := match z_cls[c]? with
  | some r => decide (r.1 = z_own a)
  | none => false
def z_clk (mid idx c n pl : Nat) : Bool := match z_cls[c]? with
  | some r => decide (n = r.2.2) && z_at pl (.classLink (z_own mid) idx r.1)
  | none => false
def z_nst (mid idx a k : Nat) : Bool := match z_nest[k]? with
  | some q => decide (q.1 = z_own mid) && (decide (q.2.1 = idx) && decide (q.2.2.1 = z_my a))
  | none => false
def z_calls (mid a n : Nat) : Bool := z_okc mid a && decide (z_npar a = some n)
def z_nocell (a : Nat) : Bool := decide ((z_rm a).cells = 0) && decide ((z_rm a).slots = 0)
def z_okop (mid pc : Nat) : Instr → Nat → Nat → Nat → Nat → Nat → Bool
  | .iconst n, len, a, _, c, _ => len == 1 && decide (Int32.ofInt n = z_kI c a)
  | .bipush n, len, a, _, c, _ => len == 2 && decide ((Int8.ofInt n).toInt32 = z_kI c a)
  | .sipush n, len, a, _, c, _ => len == 3 && decide ((Int16.ofInt n).toInt32 = z_kI c a)
  | .ldc_w i, len, a, _, c, pl => len == 3 && z_at pl (.constant (z_own mid) i (z_kI c a))
  | .lconst n, len, a, _, _, _ => len == 1 && decide (Int64.ofNat n.val = lN a)
  | .ldc2_w i, len, a, _, _, pl => len == 3 && z_at pl (.constantLong (z_own mid) i (lN a))
  | .iload _, len, _, _, _, _ => len == 2
  | .iload_n _, len, _, _, _, _ => len == 1
  | .aload _, len, _, _, _, _ => len == 2
  | .aload_n _, len, _, _, _, _ => len == 1
  | .lload _, len, _, _, _, _ => len == 2
  | .lload_n _, len, _, _, _, _ => len == 1
  | .istore n, len, _, _, _, _ => len == 2 && decide (n < z_mL mid)
  | .istore_n n, len, _, _, _, _ => len == 1 && decide (n.val < z_mL mid)
  | .astore n, len, _, _, _, _ => len == 2 && decide (n < z_mL mid)
  | .astore_n n, len, _, _, _, _ => len == 1 && decide (n.val < z_mL mid)
  | .lstore n, len, _, _, _, _ => len == 2 && decide (n + 1 < z_mL mid)
  | .lstore_n n, len, _, _, _, _ => len == 1 && decide (n.val + 1 < z_mL mid)
  | .iinc n _, len, _, _, _, _ => len == 3 && decide (n < z_mL mid)
  | .iadd, len, _, _, _, _ => len == 1
  | .isub, len, _, _, _, _ => len == 1
  | .imul, len, _, _, _, _ => len == 1
  | .iand, len, _, _, _, _ => len == 1
  | .ior, len, _, _, _, _ => len == 1
  | .ixor, len, _, _, _, _ => len == 1
  | .ishl, len, _, _, _, _ => len == 1
  | .ishr, len, _, _, _, _ => len == 1
  | .iushr, len, _, _, _, _ => len == 1
  | .idiv, len, _, _, _, _ => len == 1
  | .irem, len, _, _, _, _ => len == 1
  | .ladd, len, _, _, _, _ => len == 1
  | .lsub, len, _, _, _, _ => len == 1
  | .lmul, len, _, _, _, _ => len == 1
  | .land, len, _, _, _, _ => len == 1
  | .lor, len, _, _, _, _ => len == 1
  | .ldiv, len, _, _, _, _ => len == 1
  | .lrem, len, _, _, _, _ => len == 1
  | .lshl, len, _, _, _, _ => len == 1
  | .lushr, len, _, _, _, _ => len == 1
  | .lneg, len, _, _, _, _ => len == 1
  | .i2l, len, _, _, _, _ => len == 1
  | .l2i, len, _, _, _, _ => len == 1
  | .lcmp, len, _, _, _, _ => len == 1
  | .dup, len, _, _, _, _ => len == 1
  | .dup_x1, len, _, _, _, _ => len == 1
  | .dup2, len, _, _, _, _ => len == 1
  | .goto off, len, a, _, _, _ => len == 3 && z_jmp pc off a
  | .ifCond _ off, len, a, _, _, _ => len == 3 && z_jmp pc off a
  | .if_icmp _ off, len, a, _, _, _ => len == 3 && z_jmp pc off a
  | .ifnull off, len, a, _, _, _ => len == 3 && z_jmp pc off a
  | .ifnonnull off, len, a, _, _, _ => len == 3 && z_jmp pc off a
  | .aconst_null, len, _, _, _, _ => len == 1
  | .getfield i, len, a, b, c, pl => len == 3 && (decide (z_fk a b = c) && z_fdc mid i a b pl)
  | .putfield i, len, a, b, c, pl => len == 3 && (decide (z_fk a b = c) && (z_fin mid a b && z_fdc mid i a b pl))
  | .getstatic i, len, _, _, _, pl => len == 3 && z_at pl (.fieldLink (z_own mid) i "MeshParents" "FACTORIAL" "[I")
  | .iaload, len, _, _, _, _ => len == 1
  | .baload, len, _, _, _, _ => len == 1
  | .aaload, len, _, _, _, _ => len == 1
  | .arraylength, len, _, _, _, _ => len == 1
  | .iastore, len, _, _, _, _ => len == 1
  | .bastore, len, _, _, _, _ => len == 1
  | .aastore, len, _, _, _, _ => len == 1
  | .new i, len, a, b, _, pl => len == 3 && z_clk mid i a b pl
  | .newarray .int, len, _, _, _, _ => len == 2
  | .newarray .boolean, len, _, _, _, _ => len == 2
  | .anewarray i, len, a, b, _, pl => len == 3 && ((decide (4 ≤ a) && decide (a ≤ 6)) && z_clk mid i (z_ac a) ((z_cls[z_ac a]?).elim 0 fun r => r.2.2) pl)
  | .invokevirtual i, len, a, b, c, pl => len == 3 && (z_at pl (.methodLink (z_own mid) i (z_my a)) && (match b, c with | n + 1, k + 1 => z_calls mid a n && z_cic k a | _, _ => false) && (decide (z_kindOf a = 2) && z_nocell a))
  | .invokestatic i, len, a, b, c, pl => len == 3 && (z_at pl (.methodLink (z_own mid) i (z_my a)) && (c == 0 && z_calls mid a b) && (decide (z_kindOf a = 0) && z_nocell a))
  | .invokespecial i, len, a, b, c, pl => len == 3 && if c = 99 then z_at pl (.methodLink (z_own mid) i objectInit) && (decide (1 ≤ (z_rm mid).frames) && decide (20 ≤ (z_rm mid).locals))
    else (z_at pl (.methodLink (z_own mid) i (z_my a)) || z_nst mid i a pl) && ((match b, c with | n + 1, _ + 1 => z_calls mid a n | _, _ => false) && (decide (z_kindOf a = 1) && decide (z_mr a = none)))
  | .ireturn, len, a, _, _, _ => len == 1 && match z_mr mid with
    | some .int => a == 0
    | some .boolean => a == 1
    | _ => false
  | .lreturn, len, _, _, _, _ => len == 1 && decide (z_mr mid = some .long)
  | .return_, len, _, _, _, _ => len == 1 && decide (z_mr mid = none)
  | .tableswitch d lo hi offs, _, a, _, _, _ => (a == pc && (z_i32 lo && z_i32 hi)) && (decide (0 ≤ (pc : Int) + d) && (decide (lo ≤ hi) && decide ((offs.size : Int) = hi - lo + 1)) && offs.toList.all (fun t => decide (0 ≤ (pc : Int) + t)))
  | .lookupswitch d ps, _, a, _, _, _ => (a == pc && ((ps.toList.zip (ps.toList.drop 1)).all (fun (x, next) => x.1 < next.1))) && (decide (0 ≤ (pc : Int) + d) && ps.toList.all (fun t => decide (0 ≤ (pc : Int) + t.2) && z_i32 t.1))
  | _, _, _, _, _, _ => false
/-- is the way over behind it? -/
def z_term : Instr → Bool
  | .goto _ => true
  | .ireturn => true
  | .lreturn => true
  | .return_ => true
  | .tableswitch .. => true
  | .lookupswitch .. => true
  | _ => false
def z_pool : Instr → Bool
  | .ldc_w _ => true
  | .ldc2_w _ => true
  | .getfield _ => true
  | .putfield _ => true
  | .getstatic _ => true
  | .new _ => true
  | .anewarray _ => true
  | .invokevirtual _ => true
  | .invokestatic _ => true
  | .invokespecial _ => true
  | _ => false
def z_chk (mid : Nat) : List ZO → Nat → Nat → List Nat → Bool
  | [], pc, e, _ => pc == e
  | (i, a, b, c) :: r, pc, e, pl => match decode (z_mc mid) pc with
    | .ok (j, len) => decide (j = i) && (z_okop mid pc i len a b c (pl.headD 0) && (if z_term i then r.isEmpty else z_chk mid r (pc + len) e (if z_pool i then pl.tail else pl)))
    | .error _ => false
def z_chks (mid : Nat) : List (Nat × ZE) → List (List Nat) → Bool
  | [], _ => true
  | (pc, x) :: t, pl => z_chk mid x.2.2.1 pc x.2.2.2 (pl.headD []) && z_chks mid t pl.tail
theorem z_len {len n : Nat} (h : (len == n) = true) : len = n := by simpa using h
theorem z_jmpS {pc a : Nat} {off : Int} (h : z_jmp pc off a = true) : (pc : Int) + off = (a : Int) := of_decide_eq_true h
theorem z_tgtS {pc : Nat} {off : Int} (h : 0 ≤ (pc : Int) + off) : (pc : Int) + off = (z_tgt pc off : Int) := by unfold z_tgt; omega
theorem z_i32S {n : Int} (h : z_i32 n = true) : (Int32.ofInt n).toInt = n := by
  simp only [z_i32, Bool.and_eq_true, decide_eq_true_eq] at h
  exact Int32.toInt_ofInt_of_le (by simpa using h.1) (by simpa using h.2)
section
variable {l : Launch} {G : ZG} {mid : Nat} {z0 : Nat × Nat} {Rt : ZR} {pc len a b c pl : Nat} {L : ZL} {st : List Value} {M : ZM} {J : Nat → ZK} {K : ZK}
theorem h_if {cd : Jvm.ClassFile.Cond} {off : Int} (hne : cd ≠ .ne) (hd : decode (z_mc mid) pc = .ok (.ifCond cd off, 3)) (hj : (pc : Int) + off = (a : Int)) (hJ : ∀ t L st M, J t L st M → z_W l G mid z0 Rt t L st M) (hK : ∀ L st M, K L st M → z_W l G mid z0 Rt (pc + 3) L st M) (h : o_if (fun x => z_ic cd x 0) (J a) K L st M) : z_W l G mid z0 Rt pc L st M := by
  match st, h with
  | .int x :: st, ⟨ht, hf⟩ =>
    intro p e s m args below meth c H locs cells slots ls Z hS hN hM hl hlo hC hR
    have kt := fun (q : z_ic cd x 0) => hJ _ _ _ _ (ht q) p e s m args below meth c H locs cells slots ls Z hS hN hM hl hlo hC hR
    have kf := fun (q : ¬ z_ic cd x 0) => hK _ _ _ (hf q) p e s m args below meth c H locs cells slots ls Z hS hN hM hl hlo hC hR
    cases cd with
    | eq => exact lv_if_eq hS.1.1 hS.1.2 hd hj kt kf
    | ne => exact absurd rfl hne
    | lt => exact lv_if_lt hS.1.1 hS.1.2 hd hj kt kf
    | ge => exact lv_if_ge hS.1.1 hS.1.2 hd hj kt kf
    | gt => exact lv_if_gt hS.1.1 hS.1.2 hd hj kt kf
    | le => exact lv_if_le hS.1.1 hS.1.2 hd hj kt kf
theorem h_if2 {cd : Jvm.ClassFile.Cond} {off : Int} (hne : cd ≠ .ne) (hd : decode (z_mc mid) pc = .ok (.if_icmp cd off, 3)) (hj : (pc : Int) + off = (a : Int)) (hJ : ∀ t L st M, J t L st M → z_W l G mid z0 Rt t L st M) (hK : ∀ L st M, K L st M → z_W l G mid z0 Rt (pc + 3) L st M) (h : o_if2 (z_ic cd) (J a) K L st M) : z_W l G mid z0 Rt pc L st M := by
  match st, h with
  | .int y :: .int x :: st, ⟨ht, hf⟩ =>
    intro p e s m args below meth c H locs cells slots ls Z hS hN hM hl hlo hC hR
    have kt := fun (q : z_ic cd x y) => hJ _ _ _ _ (ht q) p e s m args below meth c H locs cells slots ls Z hS hN hM hl hlo hC hR
    have kf := fun (q : ¬ z_ic cd x y) => hK _ _ _ (hf q) p e s m args below meth c H locs cells slots ls Z hS hN hM hl hlo hC hR
    cases cd with
    | eq => exact lv_icmp_eq hS.1.1 hS.1.2 hd hj kt kf
    | ne => exact absurd rfl hne
    | lt => exact lv_icmp_lt hS.1.1 hS.1.2 hd hj kt kf
    | ge => exact lv_icmp_ge hS.1.1 hS.1.2 hd hj kt kf
    | gt => exact lv_icmp_gt hS.1.1 hS.1.2 hd hj kt kf
    | le => exact lv_icmp_le hS.1.1 hS.1.2 hd hj kt kf
theorem h_ifN {off : Int} (hd : decode (z_mc mid) pc = .ok (.ifCond .ne off, 3)) (hj : (pc : Int) + off = (a : Int)) (hJ : ∀ t L st M, J t L st M → z_W l G mid z0 Rt t L st M) (hK : ∀ L st M, K L st M → z_W l G mid z0 Rt (pc + 3) L st M) (h : o_if (fun x => x = 0) K (J a) L st M) : z_W l G mid z0 Rt pc L st M := by
  match st, h with
  | .int x :: st, ⟨ht, hf⟩ =>
    intro p e s m args below meth c H locs cells slots ls Z hS hN hM hl hlo hC hR
    exact lv_if_ne hS.1.1 hS.1.2 hd hj (fun q => hJ _ _ _ _ (hf q) p e s m args below meth c H locs cells slots ls Z hS hN hM hl hlo hC hR) (fun q => hK _ _ _ (ht q) p e s m args below meth c H locs cells slots ls Z hS hN hM hl hlo hC hR)
theorem h_ifN2 {off : Int} (hd : decode (z_mc mid) pc = .ok (.if_icmp .ne off, 3)) (hj : (pc : Int) + off = (a : Int)) (hJ : ∀ t L st M, J t L st M → z_W l G mid z0 Rt t L st M) (hK : ∀ L st M, K L st M → z_W l G mid z0 Rt (pc + 3) L st M) (h : o_if2 (fun x y => x = y) K (J a) L st M) : z_W l G mid z0 Rt pc L st M := by
  match st, h with
  | .int y :: .int x :: st, ⟨ht, hf⟩ =>
    intro p e s m args below meth c H locs cells slots ls Z hS hN hM hl hlo hC hR
    exact lv_icmp_ne hS.1.1 hS.1.2 hd hj (fun q => hJ _ _ _ _ (hf q) p e s m args below meth c H locs cells slots ls Z hS hN hM hl hlo hC hR) (fun q => hK _ _ _ (ht q) p e s m args below meth c H locs cells slots ls Z hS hN hM hl hlo hC hR)
theorem h_ldi {v : Option Value} (row : ∀ x, v = some (.int x) → K L (.int x :: st) M → z_W l G mid z0 Rt pc L st M) (h : o_ldi v K L st M) : z_W l G mid z0 Rt pc L st M := by
  match v, h with
  | some (.int x), h => exact row x rfl h
theorem h_ldl {v : Option Value} (row : ∀ x, v = some (.long x) → K L (.long x :: st) M → z_W l G mid z0 Rt pc L st M) (h : o_ldl v K L st M) : z_W l G mid z0 Rt pc L st M := by
  match v, h with
  | some (.long x), h => exact row x rfl h
theorem h_lda {v : Option Value} (row : ∀ x, v = some (.ref x) → K L (.ref x :: st) M → z_W l G mid z0 Rt pc L st M) (h : o_lda v K L st M) : z_W l G mid z0 Rt pc L st M := by
  match v, h with
  | some (.ref x), h => exact row x rfl h
/-- a row that reads a local -/
theorem z_rowL {n : Nat} {v : Value} {pc' : Nat} {st' : List Value} (hv : z_lg n L = some v) (row : ∀ {p : Program} {e : Env} {R : Room} {s : State} {m : MethodId} {args : Array Value} {below : List Frame} {meth : Method} {c : Code} {H : Heap} {locs : List Loc} {cells slots : Nat} {Z : State → Prop} {ls : Array Slot}, p.tables.exec = Jvm.exec → c.code = z_mc mid → ls[n]? = some (.val (z_em G v)) → W p l e R s m args below meth c H locs cells slots Z (F0 m pc' ls (st'.map (z_em G))) → W p l e R s m args below meth c H locs cells slots Z (F0 m pc ls (st.map (z_em G))))
    (h : z_W l G mid z0 Rt pc' L st' M) : z_W l G mid z0 Rt pc L st M :=
  fun p e s m args below meth c H locs cells slots ls Z hS hN hM hl hlo hC hR => row hS.1.1 hS.1.2 (hl.2 n v hv) (h p e s m args below meth c H locs cells slots ls Z hS hN hM hl hlo hC hR)
/-- a row that writes a local -/
theorem z_rowS {L' : ZL} {pc' : Nat} {st' : List Value} (row : ∀ {p : Program} {e : Env} {R : Room} {s : State} {m : MethodId} {args : Array Value} {below : List Frame} {meth : Method} {c : Code} {H : Heap} {locs : List Loc} {cells slots : Nat} {Z : State → Prop} {ls : Array Slot}, p.tables.exec = Jvm.exec → c.code = z_mc mid → z_lv G (z_mL mid) ls L → (∀ ls' : Array Slot, z_lv G (z_mL mid) ls' L' → W p l e R s m args below meth c H locs cells slots Z (F0 m pc' ls' (st'.map (z_em G)))) → W p l e R s m args below meth c H locs cells slots Z (F0 m pc ls (st.map (z_em G))))
    (h : z_W l G mid z0 Rt pc' L' st' M) : z_W l G mid z0 Rt pc L st M :=
  fun p e s m args below meth c H locs cells slots ls Z hS hN hM hl hlo hC hR => row hS.1.1 hS.1.2 hl (fun ls' hl' => h p e s m args below meth c H locs cells slots ls' Z hS hN hM hl' hlo hC hR)
theorem h_c1 {v : Value} (h : z_c1 v) : (z_em G v).category = 1 := by
  match v, h with
  | .int _, _ => rfl
  | .ref _, _ => rfl
theorem h_get {i : Nat} (hd : decode (z_mc mid) pc = .ok (.getfield i, 3)) (h1 : z_fk a b = c) (h2 : z_fdc mid i a b pl = true) (hK : ∀ L st M, K L st M → z_W l G mid z0 Rt (pc + 3) L st M) (h : o_get a b c K L st M) : z_W l G mid z0 Rt pc L st M := by
  match st, h with
  | .ref o :: st, ⟨ht, h⟩ =>
    unfold z_fdc at h2
    cases hc : z_cls[a]? with
    | none => rw [hc] at h2; cases h2
    | some r =>
      rw [hc] at h2
      simp only [Bool.and_eq_true, decide_eq_true_eq] at h2
      exact s_get hd hc h2.1 h1 (z_at_mem h2.2) ht (hK _ _ _ h)
theorem z_fkty {r : vw_C} (hc : z_cls[a]? = some r) (hb : b < r.2.2) : ∃ ty, parseFieldDescriptor (r.2.1 b).2.2.1 = some ty ∧ z_fk a b = z_kd ty := by
  obtain ⟨-, -, ⟨y, hy, hpd⟩, -⟩ := z_clsok a r hc
  exact ⟨y b, hpd b hb, by unfold z_fk; rw [hy]⟩
theorem z_fvI {o k : Nat} {x : Int32} (t j : Nat) (hj : j ≠ k) : z_fv t (z_u2 M.1 o k x, M.2) o j = z_fv t M o j := z_fv_same t j (if_neg fun z => hj z.2).symm rfl rfl
theorem z_fvL {o k : Nat} {x : Int64} (t j : Nat) (hj : j ≠ k) : z_fv t (M.1, M.2.1, z_uL M.2.2.1 o k x, M.2.2.2) o j = z_fv t M o j := z_fv_same t j rfl rfl (if_neg fun z => hj z.2).symm
theorem z_fvR {o k : Nat} {x : Option Nat} (t j : Nat) (hj : j ≠ k) : z_fv t (M.1, z_uR M.2.1 o k x, M.2.2) o j = z_fv t M o j := z_fv_same t j rfl (if_neg fun z => hj z.2).symm rfl
theorem h_put {i : Nat} (hd : decode (z_mc mid) pc = .ok (.putfield i, 3)) (h1 : z_fk a b = c) (hfi : z_fin mid a b = true) (h2 : z_fdc mid i a b pl = true) (hK : ∀ L st M, K L st M → z_W l G mid z0 Rt (pc + 3) L st M) (h : o_put a b c K L st M) : z_W l G mid z0 Rt pc L st M := by
  unfold z_fdc at h2
  unfold z_fin at hfi
  cases hc : z_cls[a]? with
  | none => rw [hc] at h2; cases h2
  | some r =>
    rw [hc] at h2 hfi
    simp only [Bool.and_eq_true, decide_eq_true_eq] at h2
    simp only [Bool.or_eq_true, beq_iff_eq, Bool.and_eq_true, decide_eq_true_eq] at hfi
    obtain ⟨ty, hty, hfk⟩ := z_fkty hc h2.1
    rw [h1] at hfk
    have base := fun (v : Value) (o : Nat) (M' : ZM) (st : List Value) => s_put (l := l) (G := G) (z0 := z0) (Rt := Rt) (L := L) (M := M) (v := v) (o := o) (M' := M') (ty := ty) (st := st) hd hc h2.1 (z_at_mem h2.2) hfi hty
    match c, st, h with
    | 0, .int x :: .ref o :: st, ⟨ht, h⟩ =>
      refine base (.int x) o (z_u2 M.1 o b x, M.2) st ?_ ?_ ht rfl (fun q hq j => if_neg (fun z => hq z.1)) (fun _ _ _ => rfl) (fun _ _ _ => rfl) (fun j => ?_) (hK _ _ _ h)
      · cases ty <;> first | rfl | (simp [z_kd] at hfk; done)
      · cases ty <;> first | rfl | (simp [z_kd] at hfk; done)
      · by_cases e : j = b
        · subst e; rw [if_pos rfl, h1]; show Value.int (if _ then _ else _) = _; rw [if_pos ⟨rfl, rfl⟩]
        · rw [if_neg e]; exact z_fvI _ j e
    | 3, .int x :: .ref o :: st, ⟨⟨ht, h01⟩, h⟩ =>
      refine base (.int x) o (z_u2 M.1 o b x, M.2) st ?_ ?_ ht rfl (fun q hq j => if_neg (fun z => hq z.1)) (fun _ _ _ => rfl) (fun _ _ _ => rfl) (fun j => ?_) (hK _ _ _ h)
      · rcases h01 with rfl | rfl <;> cases ty <;> first | rfl | (simp [z_kd] at hfk; done)
      · rcases h01 with rfl | rfl <;> cases ty <;> first | rfl | (simp [z_kd] at hfk; done)
      · by_cases e : j = b
        · subst e; rw [if_pos rfl, h1]; show Value.int (if _ then _ else _) = _; rw [if_pos ⟨rfl, rfl⟩]
        · rw [if_neg e]; exact z_fvI _ j e
    | 1, .long x :: .ref o :: st, ⟨ht, h⟩ =>
      refine base (.long x) o (M.1, M.2.1, z_uL M.2.2.1 o b x, M.2.2.2) st ?_ ?_ ht rfl (fun _ _ _ => rfl) (fun _ _ _ => rfl) (fun q hq j => if_neg (fun z => hq z.1)) (fun j => ?_) (hK _ _ _ h)
      · cases ty <;> first | rfl | (simp [z_kd] at hfk; done)
      · cases ty <;> first | rfl | (simp [z_kd] at hfk; done)
      · by_cases e : j = b
        · subst e; rw [if_pos rfl, h1]; show Value.long (if _ then _ else _) = _; rw [if_pos ⟨rfl, rfl⟩]
        · rw [if_neg e]; exact z_fvL _ j e
    | 2, .ref x :: .ref o :: st, ⟨ht, h⟩ =>
      refine base (.ref x) o (M.1, z_uR M.2.1 o b (some x), M.2.2) st ?_ ?_ ht rfl (fun _ _ _ => rfl) (fun q hq j => if_neg (fun z => hq z.1)) (fun _ _ _ => rfl) (fun j => ?_) (hK _ _ _ h)
      · cases ty <;> first | rfl | (simp [z_kd] at hfk; done)
      · cases ty <;> first | rfl | (simp [z_kd] at hfk; done)
      · by_cases e : j = b
        · subst e; rw [if_pos rfl, h1]; show va_rf (if _ then _ else _) = _; rw [if_pos ⟨rfl, rfl⟩]; rfl
        · rw [if_neg e]; exact z_fvR _ j e
    | 2, .null :: .ref o :: st, ⟨ht, h⟩ =>
      refine base .null o (M.1, z_uR M.2.1 o b none, M.2.2) st ?_ ?_ ht rfl (fun _ _ _ => rfl) (fun q hq j => if_neg (fun z => hq z.1)) (fun _ _ _ => rfl) (fun j => ?_) (hK _ _ _ h)
      · cases ty <;> first | rfl | (simp [z_kd] at hfk; done)
      · cases ty <;> first | rfl | (simp [z_kd] at hfk; done)
      · by_cases e : j = b
        · subst e; rw [if_pos rfl, h1]; show va_rf (if _ then _ else _) = _; rw [if_pos ⟨rfl, rfl⟩]; rfl
        · rw [if_neg e]; exact z_fvR _ j e
theorem h_tswS {x : Int32} (hJ : ∀ t L st M, J t L st M → z_W l G mid z0 Rt t L st M) : ∀ (offs : List Int) (k : Int), (∀ n : Nat, n < offs.length → (Int32.ofInt (k + n)).toInt = k + n) → z_tsw J pc x k offs L st M → ∀ (n : Nat) (t : Int), offs[n]? = some t → x.toInt = k + n → z_W l G mid z0 Rt (z_tgt pc t) L st M
  | [], k, hk, h, n, t, ht, hx => by simp at ht
  | o :: r, k, hk, h, 0, t, ht, hx => by
    simp only [List.getElem?_cons_zero] at ht
    cases ht
    refine hJ _ _ _ _ (h.1 ?_)
    have h0 : (Int32.ofInt k).toInt = k := by simpa using hk 0 (by simp)
    exact Int32.toInt_inj.mp (by rw [h0]; simpa using hx)
  | o :: r, k, hk, h, n + 1, t, ht, hx => by
    refine h_tswS hJ r (k + 1) (fun n hn => ?_) h.2 n t (by simpa using ht) (by rw [hx]; omega)
    have := hk (n + 1) (by simp; omega)
    rw [show k + 1 + (n : Int) = k + ((n + 1 : Nat) : Int) by omega]
    exact this
theorem h_lswS {x : Int32} {d : Int} (hJ : ∀ t L st M, J t L st M → z_W l G mid z0 Rt t L st M) : ∀ (ps : List (Int × Int)), (∀ q ∈ ps, z_i32 q.1 = true) → z_lsw J pc x d ps L st M → z_W l G mid z0 Rt (z_tgt pc (Op.lookupswitch.offset ps d x.toInt)) L st M
  | [], hk, h => hJ _ _ _ _ h
  | (k, t) :: r, hk, h => by
    have e := z_i32S (hk (k, t) List.mem_cons_self)
    rw [Op.lookupswitch.offset_cons]
    by_cases q : x = Int32.ofInt k
    · rw [if_pos (by rw [q, e])]
      exact hJ _ _ _ _ (h.1 q)
    · rw [if_neg (fun z => q (Int32.toInt_inj.mp (by rw [e]; exact z.symm)))]
      exact h_lswS hJ r (fun q hq => hk q (List.mem_cons_of_mem _ hq)) (h.2 q)
end
end
section
section
variable {l : Launch} {G : ZG} {mid : Nat} {z0 : Nat × Nat} {Rt : ZR}
set_option maxHeartbeats 8000000 in
theorem z_hd_sound {J : Nat → ZK} (hJ : ∀ t L st M, J t L st M → z_W l G mid z0 Rt t L st M) {pc len a b c pl : Nat} {K : ZK} {i : Instr} {L : ZL} {st : List Value} {M : ZM} (hd : decode (z_mc mid) pc = .ok (i, len)) (ok : z_okop mid pc i len a b c pl = true)
    (hK : z_term i = false → ∀ L st M, K L st M → z_W l G mid z0 Rt (pc + len) L st M) (h : z_hd G mid z0 (z_Ok l G) Rt J i a b c K L st M) : z_W l G mid z0 Rt pc L st M := by
  have b2 : ∀ {f : Int32 → Int32 → Int32}, o_b2 f K L st M → (∀ {x y : Int32} {r : List Value}, st = .int y :: .int x :: r → K L (.int (f x y) :: r) M → z_W l G mid z0 Rt pc L st M) → z_W l G mid z0 Rt pc L st M := by
    intro f h k
    match st, h with
    | .int y :: .int x :: r, h => exact k rfl h
  have l2 : ∀ {f : Int64 → Int64 → Int64}, o_l2 f K L st M → (∀ {x y : Int64} {r : List Value}, st = .long y :: .long x :: r → K L (.long (f x y) :: r) M → z_W l G mid z0 Rt pc L st M) → z_W l G mid z0 Rt pc L st M := by
    intro f h k
    match st, h with
    | .long y :: .long x :: r, h => exact k rfl h
  cases i with
  | iconst n =>
    simp only [z_okop, Bool.and_eq_true, decide_eq_true_eq] at ok
    obtain rfl := z_len ok.1
    exact z_row (fun hx hb k => lv_iconst hx hb hd ok.2 k) (hK rfl _ _ _ h)
  | bipush n =>
    simp only [z_okop, Bool.and_eq_true, decide_eq_true_eq] at ok
    obtain rfl := z_len ok.1
    exact z_row (fun hx hb k => lv_bipush hx hb hd ok.2 k) (hK rfl _ _ _ h)
  | sipush n =>
    simp only [z_okop, Bool.and_eq_true, decide_eq_true_eq] at ok
    obtain rfl := z_len ok.1
    exact z_row (fun hx hb k => lv_sipush hx hb hd ok.2 k) (hK rfl _ _ _ h)
  | ldc_w n =>
    simp only [z_okop, Bool.and_eq_true] at ok
    obtain rfl := z_len ok.1
    intro p e s m args below meth c' H locs cells slots ls Z hS hN hM hl hlo hC hR
    exact lv_ldcw hS.1.1 hS.1.2 hS.2.2.2.2.1 (hS.2.2.2.1 _ (z_at_mem ok.2)) hd (hK rfl _ _ _ h p e s m args below meth c' H locs cells slots ls Z hS hN hM hl hlo hC hR)
  | lconst n =>
    simp only [z_okop, Bool.and_eq_true, decide_eq_true_eq] at ok
    obtain rfl := z_len ok.1
    exact z_row (fun hx hb k => lv_lconst hx hb hd ok.2 k) (hK rfl _ _ _ h)
  | ldc2_w n =>
    simp only [z_okop, Bool.and_eq_true] at ok
    obtain rfl := z_len ok.1
    intro p e s m args below meth c' H locs cells slots ls Z hS hN hM hl hlo hC hR
    exact lv_ldc2 hS.1.1 hS.1.2 hS.2.2.2.2.1 (hS.2.2.2.1 _ (z_at_mem ok.2)) hd (hK rfl _ _ _ h p e s m args below meth c' H locs cells slots ls Z hS hN hM hl hlo hC hR)
  | iload n => obtain rfl := z_len ok; exact h_ldi (fun x hx h => z_rowL hx (fun he hb hl k => lv_iload he hb hd hl k) (hK rfl _ _ _ h)) h
  | iload_n n => obtain rfl := z_len ok; exact h_ldi (fun x hx h => z_rowL hx (fun he hb hl k => lv_iload_n he hb hd rfl hl k) (hK rfl _ _ _ h)) h
  | lload n => obtain rfl := z_len ok; exact h_ldl (fun x hx h => z_rowL hx (fun he hb hl k => lv_lload he hb hd hl k) (hK rfl _ _ _ h)) h
  | lload_n n => obtain rfl := z_len ok; exact h_ldl (fun x hx h => z_rowL hx (fun he hb hl k => lv_lload_n he hb hd rfl hl k) (hK rfl _ _ _ h)) h
  | aload n => obtain rfl := z_len ok; exact h_lda (fun x hx h => z_rowL hx (fun he hb hl k => lv_aload he hb hd hl k) (hK rfl _ _ _ h)) h
  | aload_n n => obtain rfl := z_len ok; exact h_lda (fun x hx h => z_rowL hx (fun he hb hl k => lv_aload_n he hb hd rfl hl k) (hK rfl _ _ _ h)) h
  | istore n =>
    simp only [z_okop, Bool.and_eq_true, decide_eq_true_eq] at ok
    obtain rfl := z_len ok.1
    match st, h with
    | .int x :: st, h => exact z_rowS (fun he hb hl k => lv_istore he hb hd hl.has ok.2 rfl (fun ls' hl' => k ls' (z_lv.st1 hl'))) (hK rfl _ _ _ h)
  | istore_n n =>
    simp only [z_okop, Bool.and_eq_true, decide_eq_true_eq] at ok
    obtain rfl := z_len ok.1
    match st, h with
    | .int x :: st, h => exact z_rowS (fun he hb hl k => lv_istore_n he hb hd rfl hl.has ok.2 rfl (fun ls' hl' => k ls' (z_lv.st1 hl'))) (hK rfl _ _ _ h)
  | astore n =>
    simp only [z_okop, Bool.and_eq_true, decide_eq_true_eq] at ok
    obtain rfl := z_len ok.1
    match st, h with
    | .ref x :: st, h => exact z_rowS (fun he hb hl k => lv_astore he hb hd hl.has ok.2 rfl (fun ls' hl' => k ls' (z_lv.st1 (v := .ref x) hl'))) (hK rfl _ _ _ h)
  | astore_n n =>
    simp only [z_okop, Bool.and_eq_true, decide_eq_true_eq] at ok
    obtain rfl := z_len ok.1
    match st, h with
    | .ref x :: st, h => exact z_rowS (fun he hb hl k => lv_astore_n he hb hd rfl hl.has ok.2 rfl (fun ls' hl' => k ls' (z_lv.st1 (v := .ref x) hl'))) (hK rfl _ _ _ h)
  | lstore n =>
    simp only [z_okop, Bool.and_eq_true, decide_eq_true_eq] at ok
    obtain rfl := z_len ok.1
    match st, h with
    | .long x :: st, h => exact z_rowS (fun he hb hl k => lv_lstore he hb hd hl.has ok.2 rfl (fun ls' hl' => k ls' (z_lv.st2 hl'))) (hK rfl _ _ _ h)
  | lstore_n n =>
    simp only [z_okop, Bool.and_eq_true, decide_eq_true_eq] at ok
    obtain rfl := z_len ok.1
    match st, h with
    | .long x :: st, h => exact z_rowS (fun he hb hl k => lv_lstore_n he hb hd rfl hl.has ok.2 rfl (fun ls' hl' => k ls' (z_lv.st2 hl'))) (hK rfl _ _ _ h)
  | iinc n d =>
    simp only [z_okop, Bool.and_eq_true, decide_eq_true_eq] at ok
    obtain rfl := z_len ok.1
    have h' : o_inc n (Int32.ofInt d) (z_lg n L) K L st M := h
    cases hv : z_lg n L with
    | none => rw [hv] at h'; exact h'.elim
    | some v =>
      rw [hv] at h'
      match v, h', hv with
      | .int x, h', hv =>
        refine z_rowS (fun he hb hl k => ?_) (hK rfl _ _ _ h')
        have hm := z_ll_mem (G := G) L 0 n _ hv
        rw [Nat.zero_add] at hm
        obtain ⟨q, hq⟩ := List.getElem?_of_mem hm
        exact lv_iinc he hb hd hl.has (k := q) hq rfl ok.2 rfl (fun ls' hl' => k ls' (z_lv.st1 hl'))
  | iadd => obtain rfl := z_len ok; exact b2 h (fun e h => by subst e; exact z_row (fun hx hb k => lv_iadd hx hb hd k) (hK rfl _ _ _ h))
  | isub => obtain rfl := z_len ok; exact b2 h (fun e h => by subst e; exact z_row (fun hx hb k => lv_isub hx hb hd k) (hK rfl _ _ _ h))
  | imul => obtain rfl := z_len ok; exact b2 h (fun e h => by subst e; exact z_row (fun hx hb k => lv_imul hx hb hd k) (hK rfl _ _ _ h))
  | iand => obtain rfl := z_len ok; exact b2 h (fun e h => by subst e; exact z_row (fun hx hb k => lv_iand hx hb hd k) (hK rfl _ _ _ h))
  | ior => obtain rfl := z_len ok; exact b2 h (fun e h => by subst e; exact z_row (fun hx hb k => lv_ior hx hb hd k) (hK rfl _ _ _ h))
  | ixor => obtain rfl := z_len ok; exact b2 h (fun e h => by subst e; exact z_row (fun hx hb k => lv_ixor hx hb hd k) (hK rfl _ _ _ h))
  | ishl => obtain rfl := z_len ok; exact b2 h (fun e h => by subst e; exact z_row (fun hx hb k => lv_ishl hx hb hd k) (hK rfl _ _ _ h))
  | ishr => obtain rfl := z_len ok; exact b2 h (fun e h => by subst e; exact z_row (fun hx hb k => lv_ishr hx hb hd k) (hK rfl _ _ _ h))
  | iushr => obtain rfl := z_len ok; exact b2 h (fun e h => by subst e; exact z_row (fun hx hb k => lv_iushr hx hb hd rfl k) (hK rfl _ _ _ h))
  | idiv =>
    obtain rfl := z_len ok
    match st, h with
    | .int y :: .int x :: st, h => exact z_row (fun hx hb k => lv_idiv hx hb hd h.1 k) (hK rfl _ _ _ h.2)
  | irem =>
    obtain rfl := z_len ok
    match st, h with
    | .int y :: .int x :: st, h => exact z_row (fun hx hb k => lv_irem hx hb hd h.1 k) (hK rfl _ _ _ h.2)
  | ladd => obtain rfl := z_len ok; exact l2 h (fun e h => by subst e; exact z_row (fun hx hb k => lv_ladd hx hb hd k) (hK rfl _ _ _ h))
  | lsub => obtain rfl := z_len ok; exact l2 h (fun e h => by subst e; exact z_row (fun hx hb k => lv_lsub hx hb hd k) (hK rfl _ _ _ h))
  | lmul => obtain rfl := z_len ok; exact l2 h (fun e h => by subst e; exact z_row (fun hx hb k => lv_lmul hx hb hd k) (hK rfl _ _ _ h))
  | land => obtain rfl := z_len ok; exact l2 h (fun e h => by subst e; exact z_row (fun hx hb k => lv_land hx hb hd k) (hK rfl _ _ _ h))
  | lor => obtain rfl := z_len ok; exact l2 h (fun e h => by subst e; exact z_row (fun hx hb k => lv_lor hx hb hd k) (hK rfl _ _ _ h))
  | ldiv =>
    obtain rfl := z_len ok
    match st, h with
    | .long y :: .long x :: st, h => exact z_row (fun hx hb k => lv_ldiv hx hb hd h.1 k) (hK rfl _ _ _ h.2)
  | lrem =>
    obtain rfl := z_len ok
    match st, h with
    | .long y :: .long x :: st, h => exact z_row (fun hx hb k => lv_lrem hx hb hd h.1 k) (hK rfl _ _ _ h.2)
  | lshl =>
    obtain rfl := z_len ok
    match st, h with
    | .int y :: .long x :: st, h => exact z_row (fun hx hb k => lv_lshl hx hb hd rfl k) (hK rfl _ _ _ h)
  | lushr =>
    obtain rfl := z_len ok
    match st, h with
    | .int y :: .long x :: st, h => exact z_row (fun hx hb k => lv_lushr hx hb hd rfl k) (hK rfl _ _ _ h)
  | lneg =>
    obtain rfl := z_len ok
    match st, h with
    | .long x :: st, h => exact z_row (fun hx hb k => lv_lneg hx hb hd k) (hK rfl _ _ _ h)
  | i2l =>
    obtain rfl := z_len ok
    match st, h with
    | .int x :: st, h => exact z_row (fun hx hb k => lv_i2l hx hb hd rfl k) (hK rfl _ _ _ h)
  | l2i =>
    obtain rfl := z_len ok
    match st, h with
    | .long x :: st, h => exact z_row (fun hx hb k => lv_l2i hx hb hd rfl k) (hK rfl _ _ _ h)
  | lcmp =>
    obtain rfl := z_len ok
    match st, h with
    | .long y :: .long x :: st, h => exact z_row (fun hx hb k => W.lcmp hx hb hd k) (hK rfl _ _ _ h)
  | dup =>
    obtain rfl := z_len ok
    match st, h with
    | v :: st, h => exact z_row (fun hx hb k => lv_dup hx hb hd (h_c1 h.1) k) (hK rfl _ _ _ h.2)
  | dup_x1 =>
    obtain rfl := z_len ok
    match st, h with
    | v :: w :: st, h => exact z_row (fun hx hb k => lv_dup_x1 hx hb hd (h_c1 h.1.1) (h_c1 h.1.2) k) (hK rfl _ _ _ h.2)
  | dup2 =>
    obtain rfl := z_len ok
    match st, h with
    | v :: w :: st, h => exact z_row (fun hx hb k => lv_dup2_11 hx hb hd (h_c1 h.1.1) (h_c1 h.1.2) k) (hK rfl _ _ _ h.2)
  | goto off =>
    simp only [z_okop, Bool.and_eq_true] at ok
    obtain rfl := z_len ok.1
    exact z_row (fun hx hb k => lv_goto hx hb hd (z_jmpS ok.2) k) (hJ _ _ _ _ h)
  | ifCond cd off =>
    simp only [z_okop, Bool.and_eq_true] at ok
    obtain rfl := z_len ok.1
    cases cd with
    | ne => exact h_ifN hd (z_jmpS ok.2) hJ (hK rfl) h
    | eq => exact h_if (by simp) hd (z_jmpS ok.2) hJ (hK rfl) h
    | lt => exact h_if (by simp) hd (z_jmpS ok.2) hJ (hK rfl) h
    | ge => exact h_if (by simp) hd (z_jmpS ok.2) hJ (hK rfl) h
    | gt => exact h_if (by simp) hd (z_jmpS ok.2) hJ (hK rfl) h
    | le => exact h_if (by simp) hd (z_jmpS ok.2) hJ (hK rfl) h
  | if_icmp cd off =>
    simp only [z_okop, Bool.and_eq_true] at ok
    obtain rfl := z_len ok.1
    cases cd with
    | ne => exact h_ifN2 hd (z_jmpS ok.2) hJ (hK rfl) h
    | eq => exact h_if2 (by simp) hd (z_jmpS ok.2) hJ (hK rfl) h
    | lt => exact h_if2 (by simp) hd (z_jmpS ok.2) hJ (hK rfl) h
    | ge => exact h_if2 (by simp) hd (z_jmpS ok.2) hJ (hK rfl) h
    | gt => exact h_if2 (by simp) hd (z_jmpS ok.2) hJ (hK rfl) h
    | le => exact h_if2 (by simp) hd (z_jmpS ok.2) hJ (hK rfl) h
  | ifnull off =>
    simp only [z_okop, Bool.and_eq_true] at ok
    obtain rfl := z_len ok.1
    match st, h with
    | .null :: st, h => exact z_row (fun hx hb k => lv_ifnullN hx hb hd (z_jmpS ok.2) k) (hJ _ _ _ _ h)
    | .ref o :: st, h => exact z_row (fun hx hb k => lv_ifnull hx hb hd k) (hK rfl _ _ _ h)
  | ifnonnull off =>
    simp only [z_okop, Bool.and_eq_true] at ok
    obtain rfl := z_len ok.1
    match st, h with
    | .null :: st, h => exact z_row (fun hx hb k => lv_ifnonnullN hx hb hd k) (hK rfl _ _ _ h)
    | .ref o :: st, h => exact z_row (fun hx hb k => lv_ifnonnull hx hb hd (z_jmpS ok.2) k) (hJ _ _ _ _ h)
  | aconst_null => obtain rfl := z_len ok; exact z_row (fun hx hb k => lv_null hx hb hd k) (hK rfl _ _ _ h)
  | getfield i =>
    simp only [z_okop, Bool.and_eq_true, decide_eq_true_eq] at ok
    obtain rfl := z_len ok.1
    exact h_get hd ok.2.1 ok.2.2 (hK rfl) h
  | putfield i =>
    simp only [z_okop, Bool.and_eq_true, decide_eq_true_eq] at ok
    obtain rfl := z_len ok.1
    exact h_put hd ok.2.1 ok.2.2.1 ok.2.2.2 (hK rfl) h
  | getstatic i =>
    simp only [z_okop, Bool.and_eq_true] at ok
    obtain rfl := z_len ok.1
    exact s_gets hd (z_at_mem ok.2) (hK rfl _ _ _ h)
  | iaload =>
    obtain rfl := z_len ok
    match a, st, h with
    | 0, .int i :: .ref o :: st, h => exact s_iald (n := (M.2.2.2.1 o).2) hd (Prod.ext h.1.1 rfl) h.1.2 (hK rfl _ _ _ h.2)
    | 1, .int i :: .ref 0 :: st, h => exact s_ialdF hd h.1 (hK rfl _ _ _ h.2)
    | 2, .int i :: .ref 1 :: st, h => exact s_ialdX hd h.1 (hK rfl _ _ _ h.2)
  | baload =>
    obtain rfl := z_len ok
    match st, h with
    | .int i :: .ref o :: st, h => exact s_zald (n := (M.2.2.2.1 o).2) hd (Prod.ext h.1.1 rfl) h.1.2 (hK rfl _ _ _ h.2)
  | aaload =>
    obtain rfl := z_len ok
    match st, h with
    | .int i :: .ref o :: st, h => exact s_aald (k := (M.2.2.2.1 o).1) (n := (M.2.2.2.1 o).2) hd rfl h.1.1 h.1.2 (hK rfl _ _ _ h.2)
  | arraylength =>
    obtain rfl := z_len ok
    match st, h with
    | .ref 1 :: st, h => exact s_alen hd (hK rfl _ _ _ h)
  | iastore =>
    obtain rfl := z_len ok
    match st, h with
    | .int x :: .int i :: .ref o :: st, h => exact s_iast (n := (M.2.2.2.1 o).2) hd (Prod.ext h.1.1 rfl) h.1.2 (hK rfl _ _ _ h.2)
  | bastore =>
    obtain rfl := z_len ok
    match st, h with
    | .int x :: .int i :: .ref o :: st, h => exact s_zast (n := (M.2.2.2.1 o).2) hd (Prod.ext h.1.1.1 rfl) h.1.1.2 h.1.2 (hK rfl _ _ _ h.2)
  | aastore =>
    obtain rfl := z_len ok
    match st, h with
    | .ref v :: .int i :: .ref o :: st, h => exact s_aast (k := (M.2.2.2.1 o).1) (n := (M.2.2.2.1 o).2) hd rfl h.1.1.1 h.1.1.2 h.1.2 (hK rfl _ _ _ h.2)
  | new i =>
    simp only [z_okop, Bool.and_eq_true] at ok
    obtain rfl := z_len ok.1
    have ok2 := ok.2
    unfold z_clk at ok2
    cases hc : z_cls[a]? with
    | none => rw [hc] at ok2; cases ok2
    | some r =>
      rw [hc] at ok2
      simp only [Bool.and_eq_true, decide_eq_true_eq] at ok2
      obtain ⟨rfl, hw⟩ := ok2
      exact s_new hd hc (z_at_mem hw) h.1 (hK rfl _ _ _ h.2)
  | newarray t =>
    cases t with
    | int =>
      obtain rfl := z_len ok
      match st, h with
      | .int n :: st, h => exact s_newaP hd (Or.inl ⟨rfl, rfl⟩) h.1.1 h.1.2.1 h.1.2.2 (hK rfl _ _ _ h.2)
    | boolean =>
      obtain rfl := z_len ok
      match st, h with
      | .int n :: st, h => exact s_newaP hd (Or.inr ⟨rfl, rfl⟩) h.1.1 h.1.2.1 h.1.2.2 (hK rfl _ _ _ h.2)
    | _ => exact h.elim
  | anewarray i =>
    simp only [z_okop, Bool.and_eq_true, decide_eq_true_eq] at ok
    obtain ⟨ok0, ⟨k1, k2⟩, ok2⟩ := ok
    obtain rfl := z_len ok0
    unfold z_clk at ok2
    cases hc : z_cls[z_ac a]? with
    | none => rw [hc] at ok2; cases ok2
    | some r =>
      rw [hc] at ok2
      simp only [Bool.and_eq_true] at ok2
      match st, h with
      | .int n :: st, h => exact s_newaR hd ⟨k1, k2⟩ hc (z_at_mem ok2.2) h.1.1 h.1.2.1 h.1.2.2 (hK rfl _ _ _ h.2)
  | invokevirtual i =>
    simp only [z_okop, Bool.and_eq_true, decide_eq_true_eq, z_nocell] at ok
    obtain ⟨ok0, ⟨ok1, ok2⟩, ok3, ok4, ok5⟩ := ok
    obtain rfl := z_len ok0
    match b, c, ok2, h with
    | n + 1, k + 1, ok2, h =>
      simp only [Bool.and_eq_true, z_calls, decide_eq_true_eq, z_cic] at ok2
      have hcl : ∃ r : vw_C, z_cls[k]? = some r ∧ r.1 = (z_my a).cls := by
        cases hc : z_cls[k]? with
        | none => rw [hc] at ok2; exact absurd ok2.2 (by simp)
        | some r => rw [hc] at ok2; exact ⟨r, rfl, of_decide_eq_true ok2.2⟩
      exact s_callV hd ok2.1.1 (z_at_mem ok1) ok2.1.2 ok3 ⟨ok4, ok5⟩ hcl (hK rfl) h
  | invokestatic i =>
    simp only [z_okop, Bool.and_eq_true, decide_eq_true_eq, z_nocell, z_calls, beq_iff_eq] at ok
    obtain ⟨ok0, ⟨ok1, rfl, ok2, ok6⟩, ok3, ok4, ok5⟩ := ok
    subst ok0
    exact s_callS hd ok2 (z_at_mem ok1) ok6 ok3 ⟨ok4, ok5⟩ (hK rfl) h
  | invokespecial i =>
    simp only [z_okop, Bool.and_eq_true] at ok
    obtain ⟨ok0, ok⟩ := ok
    obtain rfl := z_len ok0
    have h' : (if c = 99 then o_obj K L st M else o_callN (z_Ok l G) (z_rm mid) z0 a b c K L st M) := h
    by_cases hc : c = 99
    · rw [if_pos hc] at ok h'
      simp only [Bool.and_eq_true, decide_eq_true_eq] at ok
      match st, h' with
      | .ref o :: st, h => exact s_obj hd (z_at_mem ok.1) ok.2 h.1 (hK rfl _ _ _ h.2)
    · rw [if_neg hc] at ok h'
      simp only [Bool.and_eq_true, decide_eq_true_eq, Bool.or_eq_true] at ok
      obtain ⟨ok1, ok2, ok3, ok4⟩ := ok
      match b, c, ok2, h' with
      | n + 1, k + 1, ok2, h' =>
        simp only [Bool.and_eq_true, z_calls, decide_eq_true_eq] at ok2
        refine s_callI (c9 := k) hd ok2.1 ?_ ok2.2 ok3 ok4 (hK rfl) h'
        rcases ok1 with h | h
        · exact Or.inl (z_at_mem h)
        · refine Or.inr ?_
          unfold z_nst at h
          cases hq : z_nest[pl]? with
          | none => rw [hq] at h; cases h
          | some q =>
            rw [hq] at h
            simp only [Bool.and_eq_true, decide_eq_true_eq] at h
            obtain ⟨q1, q2, q3, q4⟩ := q
            obtain ⟨rfl, rfl, rfl⟩ := h
            exact ⟨q4, List.mem_of_getElem? hq⟩
  | ireturn =>
    simp only [z_okop, Bool.and_eq_true] at ok
    obtain rfl := z_len ok.1
    have ok2 := ok.2
    cases hr : z_mr mid with
    | none => rw [hr] at ok2; cases ok2
    | some t =>
      rw [hr] at ok2
      cases t with
      | int =>
        have ha : a = 0 := by simpa using ok2
        subst ha
        match st, h with
        | [.int x], h => exact s_end (v := some (.int x)) ⟨hd, _, hr, rfl⟩ h
      | boolean =>
        have ha : a = 1 := by simpa using ok2
        subst ha
        match st, h with
        | [.int x], h => exact s_end (v := some (.int x)) ⟨hd, _, hr, by rcases h.1 with rfl | rfl <;> rfl⟩ h.2
      | _ => cases ok2
  | lreturn =>
    simp only [z_okop, Bool.and_eq_true, decide_eq_true_eq] at ok
    obtain rfl := z_len ok.1
    match st, h with
    | [.long x], h => exact s_end (v := some (.long x)) ⟨hd, ok.2⟩ h
  | return_ =>
    simp only [z_okop, Bool.and_eq_true, decide_eq_true_eq] at ok
    obtain rfl := z_len ok.1
    match st, h with
    | [], h => exact s_end (v := none) ⟨hd, ok.2⟩ h
  | tableswitch d lo hi offs =>
    simp only [z_okop, Bool.and_eq_true, decide_eq_true_eq, List.all_eq_true, beq_iff_eq] at ok
    obtain ⟨⟨rfl, h32a, h32b⟩, ⟨hd0, hlh, hsz⟩, hall⟩ := ok
    have ea := z_i32S h32a
    have eb := z_i32S h32b
    match st, h with
    | .int x :: st, h =>
      intro p e s m args below meth c' H locs cells slots ls Z hS hN hM hl hlo hC hR
      by_cases q1 : x.toInt < lo
      · exact lv_tableOut hS.1.1 hS.1.2 hd (Or.inl q1) (z_tgtS hd0) (hJ _ _ _ _ (h.1 (Int32.lt_iff_toInt_lt.mpr (by rw [ea]; exact q1))) p e s m args below meth c' H locs cells slots ls Z hS hN hM hl hlo hC hR)
      · by_cases q2 : hi < x.toInt
        · exact lv_tableOut hS.1.1 hS.1.2 hd (Or.inr q2) (z_tgtS hd0) (hJ _ _ _ _ (h.2.1 (Int32.lt_iff_toInt_lt.mpr (by rw [eb]; exact q2))) p e s m args below meth c' H locs cells slots ls Z hS hN hM hl hlo hC hR)
        · have hlt : (x.toInt - lo).toNat < offs.size := by omega
          have ho : offs[(x.toInt - lo).toNat]? = some offs[(x.toInt - lo).toNat] := Array.getElem?_eq_getElem hlt
          have ho2 : offs.toList[(x.toInt - lo).toNat]? = some offs[(x.toInt - lo).toNat] := by rw [Array.getElem?_toList]; exact ho
          refine lv_tableIn hS.1.1 hS.1.2 hd q1 q2 ho (z_tgtS (hall _ (List.mem_of_getElem? ho2))) ?_
          refine h_tswS hJ offs.toList lo (fun n hn => ?_) h.2.2 _ _ ho2 (by omega) p e s m args below meth c' H locs cells slots ls Z hS hN hM hl hlo hC hR
          have h1 : (n : Int) < offs.size := by simpa using hn
          simp only [z_i32, Bool.and_eq_true, decide_eq_true_eq] at h32a h32b
          exact Int32.toInt_ofInt_of_le (by omega) (by omega)
  | lookupswitch d ps =>
    simp only [z_okop, Bool.and_eq_true, decide_eq_true_eq, beq_iff_eq] at ok
    obtain ⟨⟨rfl, hsort⟩, hd0, hall⟩ := ok
    rw [List.all_eq_true] at hall
    match st, h with
    | .int x :: st, h =>
      intro p e s m args below meth c' H locs cells slots ls Z hS hN hM hl hlo hC hR
      have hge : 0 ≤ (a : Int) + Op.lookupswitch.offset ps.toList d x.toInt := by
        have : ∀ (l : List (Int × Int)), (∀ q ∈ l, 0 ≤ (a : Int) + q.2) → 0 ≤ (a : Int) + Op.lookupswitch.offset l d x.toInt := by
          intro l
          induction l with
          | nil => intro _; exact hd0
          | cons q r ih =>
            intro hq
            obtain ⟨k, t⟩ := q
            rw [Op.lookupswitch.offset_cons]
            split
            · exact hq (k, t) List.mem_cons_self
            · exact ih (fun q hq' => hq q (List.mem_cons_of_mem _ hq'))
        refine this _ fun q hq => ?_
        have := hall q hq
        simp only [Bool.and_eq_true, decide_eq_true_eq] at this
        exact this.1
      refine lv_lookup hS.1.1 hS.1.2 hd hsort rfl (z_tgtS hge) ?_
      refine h_lswS hJ ps.toList (fun q hq => ?_) h p e s m args below meth c' H locs cells slots ls Z hS hN hM hl hlo hC hR
      have := hall q hq
      simp only [Bool.and_eq_true] at this
      exact this.2
  | _ => exact h.elim
theorem z_wp_sound {J : Nat → ZK} {e : Nat} (hJ : ∀ t L st M, J t L st M → z_W l G mid z0 Rt t L st M) : ∀ (ops : List ZO) (pc : Nat) (pl : List Nat), z_chk mid ops pc e pl = true → ∀ L st M, z_wp G mid z0 (z_Ok l G) Rt J (J e) ops L st M → z_W l G mid z0 Rt pc L st M
  | [], pc, pl, hc, L, st, M, h => by
    have : pc = e := by simpa [z_chk] using hc
    subst this
    exact hJ _ _ _ _ h
  | (i, a, b, c) :: r, pc, pl, hc, L, st, M, h => by
    unfold z_chk at hc
    cases hd : decode (z_mc mid) pc with
    | error x => rw [hd] at hc; cases hc
    | ok q =>
      obtain ⟨j, len⟩ := q
      rw [hd] at hc
      simp only [Bool.and_eq_true, decide_eq_true_eq] at hc
      obtain ⟨rfl, ok, hr⟩ := hc
      refine z_hd_sound hJ hd ok (fun ht L st M h => ?_) h
      rw [if_neg (by rw [ht]; simp)] at hr
      exact z_wp_sound hJ r _ _ hr L st M h
theorem z_fd_chk {bk : List (Nat × ZE)} : ∀ (pl : List (List Nat)), z_chks mid bk pl = true → ∀ (pc : Nat) (x : ZE), z_fd bk pc = some x → ∃ q, z_chk mid x.2.2.1 pc x.2.2.2 q = true := by
  induction bk with
  | nil => intro pl h pc x hx; cases hx
  | cons k t ih =>
    intro pl h pc x hx
    obtain ⟨k, y⟩ := k
    simp only [z_chks, Bool.and_eq_true] at h
    unfold z_fd at hx
    by_cases e : pc = k
    · rw [if_pos e] at hx
      cases hx
      subst e
      exact ⟨_, h.1⟩
    · rw [if_neg e] at hx
      exact ih _ h.2 pc x hx
theorem z_q_sound {bk : List (Nat × ZE)} {pl : List (List Nat)} (hc : z_chks mid bk pl = true) : ∀ (n pc : Nat) (L : ZL) (st : List Value) (M : ZM), z_q G mid z0 bk (z_Ok l G) Rt (z_W l G mid z0 Rt) n pc L st M → z_W l G mid z0 Rt pc L st M
  | 0, pc, L, st, M, h => h
  | n + 1, pc, L, st, M, h => by
    unfold z_q at h
    cases hf : z_fd bk pc with
    | none => rw [hf] at h; exact h
    | some x =>
      obtain ⟨cut, bs, ops, e⟩ := x
      rw [hf] at h
      cases cut with
      | true => exact h
      | false =>
        obtain ⟨q, hq⟩ := z_fd_chk pl hc pc _ hf
        exact z_mask bs (z_wp_sound (fun t L st M h => z_q_sound hc n t L st M h) ops pc q hq _ st M h)
/-- from a block on, to the next cuts -/
theorem z_run {bk : List (Nat × ZE)} {pl : List (List Nat)} (hc : z_chks mid bk pl = true) {pc : Nat} (n : Nat) {cut : Bool} {bs : List Bool} {ops : List ZO} {e : Nat} (hf : z_fd bk pc = some (cut, bs, ops, e)) {L : ZL} {st : List Value} {M : ZM} (h : z_wp G mid z0 (z_Ok l G) Rt (z_q G mid z0 bk (z_Ok l G) Rt (z_W l G mid z0 Rt) n) (z_q G mid z0 bk (z_Ok l G) Rt (z_W l G mid z0 Rt) n e) ops (z_mk1 bs L) st M) : z_W l G mid z0 Rt pc L st M := by
  obtain ⟨q, hq⟩ := z_fd_chk pl hc pc _ hf
  exact z_mask bs (z_wp_sound (fun t L st M h => z_q_sound hc n t L st M h) ops pc q hq _ st M h)
end
end
